-- OnlyUpwardModel.appends(JI)J
set_option maxRecDepth 100000 in
set_option maxHeartbeats 4000000 in
def E_X12_appends (n : Nat) (S : ST) (a0 : Int64) (a2 : Int32) : Option Int64 :=
  jn (fun (u1 : Int64) => some u1) fun j2 => if a2 = 0 then j2 a0 else j2 (((27 : Int64) * a0) + (((a2 - (97 : Int32)) + (1 : Int32))).toInt64)
set_option maxRecDepth 100000 in
set_option maxHeartbeats 4000000 in
theorem E_X12_appends_ok {n : Nat} (hn : 30000 ≤ n) {K : AK} {R : Nat → Nat → Option Nat} {S : ST} {a0 : Int64} {a2 : Int32} {tz en : Nat} (hL : Lay K R tz en) {o : Int64} (h : E_X12_appends n S a0 a2 = some o) : F_X12_appends n (mkM K R S) a0 a2 = some o := by
  unfold E_X12_appends at h
  unfold F_X12_appends
  refine eJN (fun j2 fj2 => ∀ (u1 : Int64), j2 u1 = some o → fj2 u1 = some o) h ?_ ?_
  · intro u1 h
    exact eLeaf (θ := (fun (o : Int64) => o)) h rfl
  · intro j2 fj2 Jj2 h
    refine eIF h (fun c3 h => ?_) (fun c3 h => ?_)
    · exact Jj2 _ h
    · exact Jj2 _ h
-- OnlyUpwardModel.word(IIIIIII)J
set_option maxRecDepth 100000 in
set_option maxHeartbeats 4000000 in
def E_X12_word (n : Nat) (S : ST) (a0 : Int32) (a1 : Int32) (a2 : Int32) (a3 : Int32) (a4 : Int32) (a5 : Int32) (a6 : Int32) : Option Int64 :=
  (E_X12_appends n S (0 : Int64) a0).bind fun v1 => (E_X12_appends n S v1 a1).bind fun v2 => (E_X12_appends n S v2 a2).bind fun v3 => (E_X12_appends n S v3 a3).bind fun v4 => (E_X12_appends n S v4 a4).bind fun v5 => (E_X12_appends n S v5 a5).bind fun v6 => (E_X12_appends n S v6 a6).bind fun v7 => some v7
set_option maxRecDepth 100000 in
set_option maxHeartbeats 4000000 in
theorem E_X12_word_ok {n : Nat} (hn : 30000 ≤ n) {K : AK} {R : Nat → Nat → Option Nat} {S : ST} {a0 : Int32} {a1 : Int32} {a2 : Int32} {a3 : Int32} {a4 : Int32} {a5 : Int32} {a6 : Int32} {tz en : Nat} (hL : Lay K R tz en) {o : Int64} (h : E_X12_word n S a0 a1 a2 a3 a4 a5 a6 = some o) : F_X12_word n (mkM K R S) a0 a1 a2 a3 a4 a5 a6 = some o := by
  unfold E_X12_word at h
  unfold F_X12_word
  refine eCS (fun _ hv => E_X12_appends_ok hn hL hv) h (fun v1 h => ?_)
  refine eCS (fun _ hv => E_X12_appends_ok hn hL hv) h (fun v2 h => ?_)
  refine eCS (fun _ hv => E_X12_appends_ok hn hL hv) h (fun v3 h => ?_)
  refine eCS (fun _ hv => E_X12_appends_ok hn hL hv) h (fun v4 h => ?_)
  refine eCS (fun _ hv => E_X12_appends_ok hn hL hv) h (fun v5 h => ?_)
  refine eCS (fun _ hv => E_X12_appends_ok hn hL hv) h (fun v6 h => ?_)
  refine eCS (fun _ hv => E_X12_appends_ok hn hL hv) h (fun v7 h => ?_)
  exact eLeaf (θ := (fun (o : Int64) => o)) h rfl
-- OnlyUpwardModel.put(I)V
set_option maxRecDepth 100000 in
set_option maxHeartbeats 4000000 in
def E_X12_put (n : Nat) (S : ST) (a1 : Int32) : Option ST :=
  (iter (fun (s1 : Int32 × ST) => if s1.1 < 0 then some (.inr s1.2) else (wr s1.2 96 2000 (s1.2.1 95 2) (((a1 >>> (s1.1 &&& 31))).toInt8.toInt32).toInt8.toInt32).bind fun S3 => lets (upI S3 95 2 ((S3.1 95 2) + (1 : Int32))) fun (S4 : ST) => some (.inl ((s1.1 + (-8 : Int32)), S4))) n ((24 : Int32), S)).bind fun (e1 : ST) => some e1
set_option maxRecDepth 100000 in
set_option maxHeartbeats 4000000 in
theorem E_X12_put_ok {n : Nat} (hn : 30000 ≤ n) {K : AK} {R : Nat → Nat → Option Nat} {S : ST} {a1 : Int32} {tz en : Nat} (hL : Lay K R tz en) {o : ST} (h : E_X12_put n S a1 = some o) : F_X12_put n (mkM K R S) 95 a1 = some (mkM K R o) := by
  unfold E_X12_put at h
  unfold F_X12_put
  refine eLP (fun (s1 : Int32 × ST) => (s1.1, mkM K R s1.2)) (fun (e1 : ST) => mkM K R e1) h rfl ?_ ?_
  · intro s1 x1 h
    refine eIF h (fun c2 h => ?_) (fun c2 h => ?_)
    · exact eLeaf (θ := (Sum.map (fun (s1 : Int32 × ST) => (s1.1, mkM K R s1.2)) (fun (e1 : ST) => mkM K R e1))) h rfl
    · refine eGR (kd_95 hL) (Nat.le_of_ble_eq_true rfl) (rd_95_1 hL) ?_
      refine eGI (kd_95 hL) (Nat.le_of_ble_eq_true rfl) ?_
      refine eWB (kd_96 hL) (Nat.le_of_ble_eq_true rfl) h (fun S3 h => ?_)
      refine eGI (kd_95 hL) (Nat.le_of_ble_eq_true rfl) ?_
      refine ePI (kd_95 hL) (Nat.le_of_ble_eq_true rfl) h (fun S4 h => ?_)
      exact eLeaf (θ := (Sum.map (fun (s1 : Int32 × ST) => (s1.1, mkM K R s1.2)) (fun (e1 : ST) => mkM K R e1))) h rfl
  · intro e1 h
    exact eLeaf (θ := (fun (o : ST) => (mkM K R o))) h rfl
-- OnlyUpwardModel.feed(IIIII)I
set_option maxRecDepth 100000 in
set_option maxHeartbeats 4000000 in
def E_X12_feed (n : Nat) (S : ST) (a1 : Int32) (a2 : Int32) (a3 : Int32) (a4 : Int32) (a5 : Int32) : Option (Int32 × ST) :=
  if ((S.1 95 2) + (20 : Int32)) ≤ (2000 : Int32) then (E_X12_put n S a1).bind fun S3 => (E_X12_put n S3 a2).bind fun S5 => (E_X12_put n S5 a3).bind fun S7 => (E_X12_put n S7 a4).bind fun S9 => (E_X12_put n S9 a5).bind fun S11 => some ((S11.1 95 2), S11) else some ((-1 : Int32), S)
set_option maxRecDepth 100000 in
set_option maxHeartbeats 4000000 in
theorem E_X12_feed_ok {n : Nat} (hn : 30000 ≤ n) {K : AK} {R : Nat → Nat → Option Nat} {S : ST} {a1 : Int32} {a2 : Int32} {a3 : Int32} {a4 : Int32} {a5 : Int32} {tz en : Nat} (hL : Lay K R tz en) {o : (Int32 × ST)} (h : E_X12_feed n S a1 a2 a3 a4 a5 = some o) : F_X12_feed n (mkM K R S) 95 a1 a2 a3 a4 a5 = some (o.1, mkM K R o.2) := by
  unfold E_X12_feed at h
  unfold F_X12_feed
  refine eGI (kd_95 hL) (Nat.le_of_ble_eq_true rfl) ?_
  refine eIF h (fun c1 h => ?_) (fun c1 h => ?_)
  · refine eCwV (kd_95 hL) (Nat.le_of_ble_eq_true rfl) (fun _ hv => E_X12_put_ok hn hL hv) h (fun S3 h => ?_)
    refine eCwV (kd_95 hL) (Nat.le_of_ble_eq_true rfl) (fun _ hv => E_X12_put_ok hn hL hv) h (fun S5 h => ?_)
    refine eCwV (kd_95 hL) (Nat.le_of_ble_eq_true rfl) (fun _ hv => E_X12_put_ok hn hL hv) h (fun S7 h => ?_)
    refine eCwV (kd_95 hL) (Nat.le_of_ble_eq_true rfl) (fun _ hv => E_X12_put_ok hn hL hv) h (fun S9 h => ?_)
    refine eCwV (kd_95 hL) (Nat.le_of_ble_eq_true rfl) (fun _ hv => E_X12_put_ok hn hL hv) h (fun S11 h => ?_)
    refine eGI (kd_95 hL) (Nat.le_of_ble_eq_true rfl) ?_
    exact eLeaf (θ := (fun (o : (Int32 × ST)) => (o.1, mkM K R o.2))) h rfl
  · exact eLeaf (θ := (fun (o : (Int32 × ST)) => (o.1, mkM K R o.2))) h rfl
-- OnlyUpwardModel.back(I)I
set_option maxRecDepth 100000 in
set_option maxHeartbeats 4000000 in
def E_X12_back (n : Nat) (S : ST) (a1 : Int32) : Option (Int32 × ST) :=
  if a1 < 0 then some ((-1 : Int32), S) else if a1 ≤ (S.1 95 2) then lets (upI S 95 2 ((S.1 95 2) - a1)) fun (S3 : ST) => some ((S3.1 95 2), S3) else some ((-1 : Int32), S)
set_option maxRecDepth 100000 in
set_option maxHeartbeats 4000000 in
theorem E_X12_back_ok {n : Nat} (hn : 30000 ≤ n) {K : AK} {R : Nat → Nat → Option Nat} {S : ST} {a1 : Int32} {tz en : Nat} (hL : Lay K R tz en) {o : (Int32 × ST)} (h : E_X12_back n S a1 = some o) : F_X12_back n (mkM K R S) 95 a1 = some (o.1, mkM K R o.2) := by
  unfold E_X12_back at h
  unfold F_X12_back
  refine eIF h (fun c1 h => ?_) (fun c1 h => ?_)
  · exact eLeaf (θ := (fun (o : (Int32 × ST)) => (o.1, mkM K R o.2))) h rfl
  · refine eGI (kd_95 hL) (Nat.le_of_ble_eq_true rfl) ?_
    refine eIF h (fun c2 h => ?_) (fun c2 h => ?_)
    · refine eGI (kd_95 hL) (Nat.le_of_ble_eq_true rfl) ?_
      refine ePI (kd_95 hL) (Nat.le_of_ble_eq_true rfl) h (fun S3 h => ?_)
      refine eGI (kd_95 hL) (Nat.le_of_ble_eq_true rfl) ?_
      exact eLeaf (θ := (fun (o : (Int32 × ST)) => (o.1, mkM K R o.2))) h rfl
    · exact eLeaf (θ := (fun (o : (Int32 × ST)) => (o.1, mkM K R o.2))) h rfl
-- java/lang/Integer.bitCount(I)I
set_option maxRecDepth 100000 in
set_option maxHeartbeats 4000000 in
def E_J6_bitCount_0f7a4 (n : Nat) (S : ST) (a0 : Int32) : Option Int32 :=
  lets (a0 - ((ush a0 (1 : Int32)) &&& (1431655765 : Int32))) fun (w1 : Int32) => lets ((w1 &&& (858993459 : Int32)) + ((ush w1 (2 : Int32)) &&& (858993459 : Int32))) fun (w2 : Int32) => lets ((w2 + (ush w2 (4 : Int32))) &&& (252645135 : Int32)) fun (w3 : Int32) => lets ((w3 + (ush w3 (8 : Int32))) + (ush (w3 + (ush w3 (8 : Int32))) (16 : Int32))) fun (w4 : Int32) => some (w4 &&& (63 : Int32))
set_option maxRecDepth 100000 in
set_option maxHeartbeats 4000000 in
theorem E_J6_bitCount_0f7a4_ok {n : Nat} (hn : 30000 ≤ n) {K : AK} {R : Nat → Nat → Option Nat} {S : ST} {a0 : Int32} {tz en : Nat} (hL : Lay K R tz en) {o : Int32} (h : E_J6_bitCount_0f7a4 n S a0 = some o) : F_J6_bitCount_0f7a4 n (mkM K R S) a0 = some o := by
  unfold E_J6_bitCount_0f7a4 at h
  unfold F_J6_bitCount_0f7a4
  refine eLT h (fun w1 h => ?_)
  refine eLT h (fun w2 h => ?_)
  refine eLT h (fun w3 h => ?_)
  refine eLT h (fun w4 h => ?_)
  exact eLeaf (θ := (fun (o : Int32) => o)) h rfl
-- OnlyUpwardModel.byteAt(I)I
set_option maxRecDepth 100000 in
set_option maxHeartbeats 4000000 in
def E_X12_byteAt (n : Nat) (S : ST) (a1 : Int32) : Option Int32 :=
  if (S.1 95 4) ≤ a1 then some (0 : Int32) else (rd (S.1 97) 2000 a1).bind fun v2 => some (v2 &&& (255 : Int32))
set_option maxRecDepth 100000 in
set_option maxHeartbeats 4000000 in
theorem E_X12_byteAt_ok {n : Nat} (hn : 30000 ≤ n) {K : AK} {R : Nat → Nat → Option Nat} {S : ST} {a1 : Int32} {tz en : Nat} (hL : Lay K R tz en) {o : Int32} (h : E_X12_byteAt n S a1 = some o) : F_X12_byteAt n (mkM K R S) 95 a1 = some o := by
  unfold E_X12_byteAt at h
  unfold F_X12_byteAt
  refine eGI (kd_95 hL) (Nat.le_of_ble_eq_true rfl) ?_
  refine eIF h (fun c1 h => ?_) (fun c1 h => ?_)
  · exact eLeaf (θ := (fun (o : Int32) => o)) h rfl
  · refine eGR (kd_95 hL) (Nat.le_of_ble_eq_true rfl) (rd_95_3 hL) ?_
    refine eRB (kd_97 hL) h (fun v2 h => ?_)
    exact eLeaf (θ := (fun (o : Int32) => o)) h rfl
-- OnlyUpwardModel.token(IIIJ)V
set_option maxRecDepth 100000 in
set_option maxHeartbeats 4000000 in
def E_X12_token (n : Nat) (S : ST) (a1 : Int32) (a2 : Int32) (a3 : Int32) (a4 : Int64) : Option ST :=
  (wr S 98 403 (S.1 95 10) a1).bind fun S1 => (wr S1 99 403 (S1.1 95 10) a2).bind fun S2 => (wr S2 100 403 (S2.1 95 10) a3).bind fun S3 => (wrl S3 101 403 (S3.1 95 10) a4).bind fun S4 => lets (upI S4 95 10 ((S4.1 95 10) + (1 : Int32))) fun (S5 : ST) => some S5
set_option maxRecDepth 100000 in
set_option maxHeartbeats 4000000 in
theorem E_X12_token_ok {n : Nat} (hn : 30000 ≤ n) {K : AK} {R : Nat → Nat → Option Nat} {S : ST} {a1 : Int32} {a2 : Int32} {a3 : Int32} {a4 : Int64} {tz en : Nat} (hL : Lay K R tz en) {o : ST} (h : E_X12_token n S a1 a2 a3 a4 = some o) : F_X12_token n (mkM K R S) 95 a1 a2 a3 a4 = some (mkM K R o) := by
  unfold E_X12_token at h
  unfold F_X12_token
  refine eGR (kd_95 hL) (Nat.le_of_ble_eq_true rfl) (rd_95_5 hL) ?_
  refine eGI (kd_95 hL) (Nat.le_of_ble_eq_true rfl) ?_
  refine eWI (kd_98 hL) (Nat.le_of_ble_eq_true rfl) h (fun S1 h => ?_)
  refine eGR (kd_95 hL) (Nat.le_of_ble_eq_true rfl) (rd_95_6 hL) ?_
  refine eGI (kd_95 hL) (Nat.le_of_ble_eq_true rfl) ?_
  refine eWI (kd_99 hL) (Nat.le_of_ble_eq_true rfl) h (fun S2 h => ?_)
  refine eGR (kd_95 hL) (Nat.le_of_ble_eq_true rfl) (rd_95_7 hL) ?_
  refine eGI (kd_95 hL) (Nat.le_of_ble_eq_true rfl) ?_
  refine eWI (kd_100 hL) (Nat.le_of_ble_eq_true rfl) h (fun S3 h => ?_)
  refine eGR (kd_95 hL) (Nat.le_of_ble_eq_true rfl) (rd_95_8 hL) ?_
  refine eGI (kd_95 hL) (Nat.le_of_ble_eq_true rfl) ?_
  refine eWL (kd_101 hL) (Nat.le_of_ble_eq_true rfl) h (fun S4 h => ?_)
  refine eGI (kd_95 hL) (Nat.le_of_ble_eq_true rfl) ?_
  refine ePI (kd_95 hL) (Nat.le_of_ble_eq_true rfl) h (fun S5 h => ?_)
  exact eLeaf (θ := (fun (o : ST) => (mkM K R o))) h rfl
-- OnlyUpwardModel.isLetter(I)Z
set_option maxRecDepth 100000 in
set_option maxHeartbeats 4000000 in
def E_X12_isLetter (n : Nat) (S : ST) (a0 : Int32) : Option Int32 :=
  if a0 < (97 : Int32) then some (0 : Int32) else if (122 : Int32) < a0 then some (0 : Int32) else some (1 : Int32)
set_option maxRecDepth 100000 in
set_option maxHeartbeats 4000000 in
theorem E_X12_isLetter_ok {n : Nat} (hn : 30000 ≤ n) {K : AK} {R : Nat → Nat → Option Nat} {S : ST} {a0 : Int32} {tz en : Nat} (hL : Lay K R tz en) {o : Int32} (h : E_X12_isLetter n S a0 = some o) : F_X12_isLetter n (mkM K R S) a0 = some o := by
  unfold E_X12_isLetter at h
  unfold F_X12_isLetter
  refine eIF h (fun c1 h => ?_) (fun c1 h => ?_)
  · exact eLeaf (θ := (fun (o : Int32) => o)) h rfl
  · refine eIF h (fun c2 h => ?_) (fun c2 h => ?_)
    · exact eLeaf (θ := (fun (o : Int32) => o)) h rfl
    · exact eLeaf (θ := (fun (o : Int32) => o)) h rfl
-- OnlyUpwardModel.isDigit(I)Z
set_option maxRecDepth 100000 in
set_option maxHeartbeats 4000000 in
def E_X12_isDigit (n : Nat) (S : ST) (a0 : Int32) : Option Int32 :=
  if a0 < (48 : Int32) then some (0 : Int32) else if (57 : Int32) < a0 then some (0 : Int32) else some (1 : Int32)
set_option maxRecDepth 100000 in
set_option maxHeartbeats 4000000 in
theorem E_X12_isDigit_ok {n : Nat} (hn : 30000 ≤ n) {K : AK} {R : Nat → Nat → Option Nat} {S : ST} {a0 : Int32} {tz en : Nat} (hL : Lay K R tz en) {o : Int32} (h : E_X12_isDigit n S a0 = some o) : F_X12_isDigit n (mkM K R S) a0 = some o := by
  unfold E_X12_isDigit at h
  unfold F_X12_isDigit
  refine eIF h (fun c1 h => ?_) (fun c1 h => ?_)
  · exact eLeaf (θ := (fun (o : Int32) => o)) h rfl
  · refine eIF h (fun c2 h => ?_) (fun c2 h => ?_)
    · exact eLeaf (θ := (fun (o : Int32) => o)) h rfl
    · exact eLeaf (θ := (fun (o : Int32) => o)) h rfl
-- OnlyUpwardModel.sign(III)I
set_option maxRecDepth 100000 in
set_option maxHeartbeats 4000000 in
def E_X12_sign (n : Nat) (S : ST) (a1 : Int32) (a2 : Int32) (a3 : Int32) : Option (Int32 × ST) :=
  jn (fun (u1 : Int32) => jn (fun (u2 : Int32) => (E_X12_token n S u2 a1 (0 : Int32) (0 : Int64)).bind fun S4 => if u1 ≤ 0 then some ((1 : Int32), S4) else some ((2 : Int32), S4)) fun j6 => if u1 ≤ 0 then if a2 = (59 : Int32) then j6 (4 : Int32) else if a2 = (40 : Int32) then j6 (6 : Int32) else if a2 = (41 : Int32) then j6 (7 : Int32) else if a2 = (43 : Int32) then j6 (8 : Int32) else if a2 = (45 : Int32) then j6 (9 : Int32) else if a2 = (42 : Int32) then j6 (10 : Int32) else if a2 = (60 : Int32) then j6 (13 : Int32) else if a2 = (47 : Int32) then j6 (15 : Int32) else if a2 = (44 : Int32) then j6 (5 : Int32) else j6 (3 : Int32) else j6 u1) fun j17 => if a3 = (61 : Int32) then if a2 = (61 : Int32) then j17 (11 : Int32) else if a2 = (33 : Int32) then j17 (12 : Int32) else if a2 = (60 : Int32) then j17 (14 : Int32) else j17 (0 : Int32) else j17 (0 : Int32)
set_option maxRecDepth 100000 in
set_option maxHeartbeats 4000000 in
theorem E_X12_sign_ok {n : Nat} (hn : 30000 ≤ n) {K : AK} {R : Nat → Nat → Option Nat} {S : ST} {a1 : Int32} {a2 : Int32} {a3 : Int32} {tz en : Nat} (hL : Lay K R tz en) {o : (Int32 × ST)} (h : E_X12_sign n S a1 a2 a3 = some o) : F_X12_sign n (mkM K R S) 95 a1 a2 a3 = some (o.1, mkM K R o.2) := by
  unfold E_X12_sign at h
  unfold F_X12_sign
  refine eJN (fun j17 fj17 => ∀ (u1 : Int32), j17 u1 = some o → fj17 u1 = some (o.1, mkM K R o.2)) h ?_ ?_
  · intro u1 h
    refine eJN (fun j6 fj6 => ∀ (u2 : Int32), j6 u2 = some o → fj6 u2 = some (o.1, mkM K R o.2)) h ?_ ?_
    · intro u2 h
      refine eCwV (kd_95 hL) (Nat.le_of_ble_eq_true rfl) (fun _ hv => E_X12_token_ok hn hL hv) h (fun S4 h => ?_)
      refine eIF h (fun c5 h => ?_) (fun c5 h => ?_)
      · exact eLeaf (θ := (fun (o : (Int32 × ST)) => (o.1, mkM K R o.2))) h rfl
      · exact eLeaf (θ := (fun (o : (Int32 × ST)) => (o.1, mkM K R o.2))) h rfl
    · intro j6 fj6 Jj6 h
      refine eIF h (fun c7 h => ?_) (fun c7 h => ?_)
      · refine eIF h (fun c8 h => ?_) (fun c8 h => ?_)
        · exact Jj6 _ h
        · refine eIF h (fun c9 h => ?_) (fun c9 h => ?_)
          · exact Jj6 _ h
          · refine eIF h (fun c10 h => ?_) (fun c10 h => ?_)
            · exact Jj6 _ h
            · refine eIF h (fun c11 h => ?_) (fun c11 h => ?_)
              · exact Jj6 _ h
              · refine eIF h (fun c12 h => ?_) (fun c12 h => ?_)
                · exact Jj6 _ h
                · refine eIF h (fun c13 h => ?_) (fun c13 h => ?_)
                  · exact Jj6 _ h
                  · refine eIF h (fun c14 h => ?_) (fun c14 h => ?_)
                    · exact Jj6 _ h
                    · refine eIF h (fun c15 h => ?_) (fun c15 h => ?_)
                      · exact Jj6 _ h
                      · refine eIF h (fun c16 h => ?_) (fun c16 h => ?_)
                        · exact Jj6 _ h
                        · exact Jj6 _ h
      · exact Jj6 _ h
  · intro j17 fj17 Jj17 h
    refine eIF h (fun c18 h => ?_) (fun c18 h => ?_)
    · refine eIF h (fun c19 h => ?_) (fun c19 h => ?_)
      · exact Jj17 _ h
      · refine eIF h (fun c20 h => ?_) (fun c20 h => ?_)
        · exact Jj17 _ h
        · refine eIF h (fun c21 h => ?_) (fun c21 h => ?_)
          · exact Jj17 _ h
          · exact Jj17 _ h
    · exact Jj17 _ h
-- OnlyUpwardModel.cut()V
set_option maxRecDepth 100000 in
set_option maxHeartbeats 4000000 in
def E_X12_cut (n : Nat) (S : ST) : Option ST :=
  lets (upI S 95 10 (0 : Int32)) fun (S1 : ST) => (iter (fun (s2 : Int32 × ST) => if (400 : Int32) < (s2.2.1 95 10) then some (.inr (.inl s2.2)) else (E_X12_byteAt n s2.2 s2.1).bind fun v4 => if s2.1 < (s2.2.1 95 4) then jn (fun (u6 : Int32) (S7 : ST) => some (.inl (u6, S7))) fun j8 => jn (j8 (s2.1 + (1 : Int32)) s2.2) fun j9 => if v4 = (9 : Int32) then j9 else if v4 = (10 : Int32) then j9 else if v4 = (13 : Int32) then j9 else if v4 = (32 : Int32) then j9 else (E_X12_isLetter n s2.2 v4).bind fun v14 => if v14 = 0 then (E_X12_isDigit n s2.2 v4).bind fun v16 => if v16 = 0 then (E_X12_byteAt n s2.2 (s2.1 + (1 : Int32))).bind fun v18 => (E_X12_sign n s2.2 s2.1 v4 v18).bind fun v19 => j8 (s2.1 + v19.1) v19.2 else (iter (fun (s20 : Int32 × Int32) => (E_X12_byteAt n s2.2 (s2.1 + s20.1)).bind fun v21 => (E_X12_isDigit n s2.2 v21).bind fun v22 => if v22 = 0 then some (.inr (s20.1, s20.2)) else jn (fun (u24 : Int32) => some (.inl ((s20.1 + (1 : Int32)), u24))) fun j25 => if (4 : Int32) ≤ s20.1 then j25 s20.2 else (E_X12_byteAt n s2.2 (s2.1 + s20.1)).bind fun v27 => lets ((((10 : Int32) * s20.2) + v27) - (48 : Int32)) fun (w28 : Int32) => j25 w28) n ((0 : Int32), (0 : Int32))).bind fun (e20 : Int32 × Int32) => jn (fun (u29 : Int32) => (E_X12_token n s2.2 u29 s2.1 e20.2 (0 : Int64)).bind fun S31 => j8 (s2.1 + e20.1) S31) fun j32 => if e20.1 ≤ (4 : Int32) then j32 (2 : Int32) else j32 (3 : Int32) else (iter (fun (s34 : Int32 × Int64) => (E_X12_byteAt n s2.2 (s2.1 + s34.1)).bind fun v35 => (E_X12_isLetter n s2.2 v35).bind fun v36 => if v36 = 0 then some (.inr (s34.1, s34.2)) else jn (fun (u38 : Int64) => some (.inl ((s34.1 + (1 : Int32)), u38))) fun j39 => if (8 : Int32) ≤ s34.1 then j39 s34.2 else (E_X12_byteAt n s2.2 (s2.1 + s34.1)).bind fun v41 => (E_X12_appends n s2.2 s34.2 v41).bind fun v42 => j39 v42) n ((0 : Int32), (0 : Int64))).bind fun (e34 : Int32 × Int64) => jn (fun (u43 : Int32) => jn (fun (u44 : Int32) => (E_X12_token n s2.2 u44 s2.1 (0 : Int32) e34.2).bind fun S46 => j8 (s2.1 + e34.1) S46) fun j47 => if (7 : Int32) < e34.1 then j47 u43 else (iter (fun (s49 : Int32 × Int32) => if (20 : Int32) ≤ s49.2 then some (.inr s49.1) else (rd (s2.2.2 102) 20 s49.2).bind fun v51 => jn (fun (u52 : Int32) => some (.inl (u52, (s49.2 + (1 : Int32))))) fun j53 => if (lg_cmp v51 e34.2) = 0 then j53 ((20 : Int32) + s49.2) else j53 s49.1) n (u43, (0 : Int32))).bind fun (e49 : Int32) => j47 e49) fun j55 => if e34.1 ≤ (8 : Int32) then j55 (1 : Int32) else j55 (3 : Int32) else (E_X12_token n s2.2 (0 : Int32) (s2.2.1 95 4) (0 : Int32) (0 : Int64)).bind fun S58 => some (.inr (.inr S58))) n ((0 : Int32), S1)).bind fun (z2 : (ST) ⊕ ST) => Sum.elim (fun (e2 : ST) => some e2) (fun (v : ST) => some v) z2
set_option maxRecDepth 100000 in
set_option maxHeartbeats 4000000 in
theorem E_X12_cut_ok {n : Nat} (hn : 30000 ≤ n) {K : AK} {R : Nat → Nat → Option Nat} {S : ST} {tz en : Nat} (hL : Lay K R tz en) {o : ST} (h : E_X12_cut n S  = some o) : F_X12_cut n (mkM K R S) 95 = some (mkM K R o) := by
  unfold E_X12_cut at h
  unfold F_X12_cut
  refine ePI (kd_95 hL) (Nat.le_of_ble_eq_true rfl) h (fun S1 h => ?_)
  refine eLP (fun (s2 : Int32 × ST) => (s2.1, mkM K R s2.2)) (Sum.map (fun (e2 : ST) => mkM K R e2) (fun (v : ST) => (mkM K R v))) h rfl ?_ ?_
  · intro s2 x2 h
    refine eGI (kd_95 hL) (Nat.le_of_ble_eq_true rfl) ?_
    refine eIF h (fun c3 h => ?_) (fun c3 h => ?_)
    · exact eLeaf (θ := (Sum.map (fun (s2 : Int32 × ST) => (s2.1, mkM K R s2.2)) (Sum.map (fun (e2 : ST) => mkM K R e2) (fun (v : ST) => (mkM K R v))))) h rfl
    · refine eCV (kd_95 hL) (Nat.le_of_ble_eq_true rfl) (fun _ hv => E_X12_byteAt_ok hn hL hv) h (fun v4 h => ?_)
      refine eGI (kd_95 hL) (Nat.le_of_ble_eq_true rfl) ?_
      refine eIF h (fun c5 h => ?_) (fun c5 h => ?_)
      · refine eJN (fun j8 fj8 => ∀ (u6 : Int32) (S7 : ST), j8 u6 S7 = some x2 → fj8 u6 (mkM K R S7) = some (Sum.map (fun (s2 : Int32 × ST) => (s2.1, mkM K R s2.2)) (Sum.map (fun (e2 : ST) => mkM K R e2) (fun (v : ST) => (mkM K R v))) x2)) h ?_ ?_
        · intro u6 S7 h
          exact eLeaf (θ := (Sum.map (fun (s2 : Int32 × ST) => (s2.1, mkM K R s2.2)) (Sum.map (fun (e2 : ST) => mkM K R e2) (fun (v : ST) => (mkM K R v))))) h rfl
        · intro j8 fj8 Jj8 h
          refine eJN (fun j9 fj9 => j9 = some x2 → fj9 = some (Sum.map (fun (s2 : Int32 × ST) => (s2.1, mkM K R s2.2)) (Sum.map (fun (e2 : ST) => mkM K R e2) (fun (v : ST) => (mkM K R v))) x2)) h ?_ ?_
          · intro h
            exact Jj8 _ _ h
          · intro j9 fj9 Jj9 h
            refine eIF h (fun c10 h => ?_) (fun c10 h => ?_)
            · exact Jj9 h
            · refine eIF h (fun c11 h => ?_) (fun c11 h => ?_)
              · exact Jj9 h
              · refine eIF h (fun c12 h => ?_) (fun c12 h => ?_)
                · exact Jj9 h
                · refine eIF h (fun c13 h => ?_) (fun c13 h => ?_)
                  · exact Jj9 h
                  · refine eCS (fun _ hv => E_X12_isLetter_ok hn hL hv) h (fun v14 h => ?_)
                    refine eIF h (fun c15 h => ?_) (fun c15 h => ?_)
                    · refine eCS (fun _ hv => E_X12_isDigit_ok hn hL hv) h (fun v16 h => ?_)
                      refine eIF h (fun c17 h => ?_) (fun c17 h => ?_)
                      · refine eCV (kd_95 hL) (Nat.le_of_ble_eq_true rfl) (fun _ hv => E_X12_byteAt_ok hn hL hv) h (fun v18 h => ?_)
                        refine eCwiV (kd_95 hL) (Nat.le_of_ble_eq_true rfl) (fun _ hv => E_X12_sign_ok hn hL hv) h (fun v19 h => ?_)
                        exact Jj8 _ _ h
                      · refine eLP (fun (s20 : Int32 × Int32) => s20) (fun (e20 : Int32 × Int32) => e20) h rfl ?_ ?_
                        · intro s20 x20 h
                          refine eCV (kd_95 hL) (Nat.le_of_ble_eq_true rfl) (fun _ hv => E_X12_byteAt_ok hn hL hv) h (fun v21 h => ?_)
                          refine eCS (fun _ hv => E_X12_isDigit_ok hn hL hv) h (fun v22 h => ?_)
                          refine eIF h (fun c23 h => ?_) (fun c23 h => ?_)
                          · exact eLeaf (θ := (Sum.map (fun (s20 : Int32 × Int32) => s20) (fun (e20 : Int32 × Int32) => e20))) h rfl
                          · refine eJN (fun j25 fj25 => ∀ (u24 : Int32), j25 u24 = some x20 → fj25 u24 = some (Sum.map (fun (s20 : Int32 × Int32) => s20) (fun (e20 : Int32 × Int32) => e20) x20)) h ?_ ?_
                            · intro u24 h
                              exact eLeaf (θ := (Sum.map (fun (s20 : Int32 × Int32) => s20) (fun (e20 : Int32 × Int32) => e20))) h rfl
                            · intro j25 fj25 Jj25 h
                              refine eIF h (fun c26 h => ?_) (fun c26 h => ?_)
                              · exact Jj25 _ h
                              · refine eCV (kd_95 hL) (Nat.le_of_ble_eq_true rfl) (fun _ hv => E_X12_byteAt_ok hn hL hv) h (fun v27 h => ?_)
                                refine eLT h (fun w28 h => ?_)
                                exact Jj25 _ h
                        · intro e20 h
                          refine eJN (fun j32 fj32 => ∀ (u29 : Int32), j32 u29 = some x2 → fj32 u29 = some (Sum.map (fun (s2 : Int32 × ST) => (s2.1, mkM K R s2.2)) (Sum.map (fun (e2 : ST) => mkM K R e2) (fun (v : ST) => (mkM K R v))) x2)) h ?_ ?_
                          · intro u29 h
                            refine eCwV (kd_95 hL) (Nat.le_of_ble_eq_true rfl) (fun _ hv => E_X12_token_ok hn hL hv) h (fun S31 h => ?_)
                            exact Jj8 _ _ h
                          · intro j32 fj32 Jj32 h
                            refine eIF h (fun c33 h => ?_) (fun c33 h => ?_)
                            · exact Jj32 _ h
                            · exact Jj32 _ h
                    · refine eLP (fun (s34 : Int32 × Int64) => s34) (fun (e34 : Int32 × Int64) => e34) h rfl ?_ ?_
                      · intro s34 x34 h
                        refine eCV (kd_95 hL) (Nat.le_of_ble_eq_true rfl) (fun _ hv => E_X12_byteAt_ok hn hL hv) h (fun v35 h => ?_)
                        refine eCS (fun _ hv => E_X12_isLetter_ok hn hL hv) h (fun v36 h => ?_)
                        refine eIF h (fun c37 h => ?_) (fun c37 h => ?_)
                        · exact eLeaf (θ := (Sum.map (fun (s34 : Int32 × Int64) => s34) (fun (e34 : Int32 × Int64) => e34))) h rfl
                        · refine eJN (fun j39 fj39 => ∀ (u38 : Int64), j39 u38 = some x34 → fj39 u38 = some (Sum.map (fun (s34 : Int32 × Int64) => s34) (fun (e34 : Int32 × Int64) => e34) x34)) h ?_ ?_
                          · intro u38 h
                            exact eLeaf (θ := (Sum.map (fun (s34 : Int32 × Int64) => s34) (fun (e34 : Int32 × Int64) => e34))) h rfl
                          · intro j39 fj39 Jj39 h
                            refine eIF h (fun c40 h => ?_) (fun c40 h => ?_)
                            · exact Jj39 _ h
                            · refine eCV (kd_95 hL) (Nat.le_of_ble_eq_true rfl) (fun _ hv => E_X12_byteAt_ok hn hL hv) h (fun v41 h => ?_)
                              refine eCS (fun _ hv => E_X12_appends_ok hn hL hv) h (fun v42 h => ?_)
                              exact Jj39 _ h
                      · intro e34 h
                        refine eJN (fun j55 fj55 => ∀ (u43 : Int32), j55 u43 = some x2 → fj55 u43 = some (Sum.map (fun (s2 : Int32 × ST) => (s2.1, mkM K R s2.2)) (Sum.map (fun (e2 : ST) => mkM K R e2) (fun (v : ST) => (mkM K R v))) x2)) h ?_ ?_
                        · intro u43 h
                          refine eJN (fun j47 fj47 => ∀ (u44 : Int32), j47 u44 = some x2 → fj47 u44 = some (Sum.map (fun (s2 : Int32 × ST) => (s2.1, mkM K R s2.2)) (Sum.map (fun (e2 : ST) => mkM K R e2) (fun (v : ST) => (mkM K R v))) x2)) h ?_ ?_
                          · intro u44 h
                            refine eCwV (kd_95 hL) (Nat.le_of_ble_eq_true rfl) (fun _ hv => E_X12_token_ok hn hL hv) h (fun S46 h => ?_)
                            exact Jj8 _ _ h
                          · intro j47 fj47 Jj47 h
                            refine eIF h (fun c48 h => ?_) (fun c48 h => ?_)
                            · exact Jj47 _ h
                            · refine eLP (fun (s49 : Int32 × Int32) => s49) (fun (e49 : Int32) => e49) h rfl ?_ ?_
                              · intro s49 x49 h
                                refine eIF h (fun c50 h => ?_) (fun c50 h => ?_)
                                · exact eLeaf (θ := (Sum.map (fun (s49 : Int32 × Int32) => s49) (fun (e49 : Int32) => e49))) h rfl
                                · refine eGR (kd_95 hL) (Nat.le_of_ble_eq_true rfl) (rd_95_9 hL) ?_
                                  refine eRL (kd_102 hL) (Nat.le_of_ble_eq_true rfl) h (fun v51 h => ?_)
                                  refine eJN (fun j53 fj53 => ∀ (u52 : Int32), j53 u52 = some x49 → fj53 u52 = some (Sum.map (fun (s49 : Int32 × Int32) => s49) (fun (e49 : Int32) => e49) x49)) h ?_ ?_
                                  · intro u52 h
                                    exact eLeaf (θ := (Sum.map (fun (s49 : Int32 × Int32) => s49) (fun (e49 : Int32) => e49))) h rfl
                                  · intro j53 fj53 Jj53 h
                                    refine eIF h (fun c54 h => ?_) (fun c54 h => ?_)
                                    · exact Jj53 _ h
                                    · exact Jj53 _ h
                              · intro e49 h
                                exact Jj47 _ h
                        · intro j55 fj55 Jj55 h
                          refine eIF h (fun c56 h => ?_) (fun c56 h => ?_)
                          · exact Jj55 _ h
                          · exact Jj55 _ h
      · refine eGI (kd_95 hL) (Nat.le_of_ble_eq_true rfl) ?_
        refine eCwV (kd_95 hL) (Nat.le_of_ble_eq_true rfl) (fun _ hv => E_X12_token_ok hn hL hv) h (fun S58 h => ?_)
        exact eLeaf (θ := (Sum.map (fun (s2 : Int32 × ST) => (s2.1, mkM K R s2.2)) (Sum.map (fun (e2 : ST) => mkM K R e2) (fun (v : ST) => (mkM K R v))))) h rfl
  · intro z2 h
    rcases z2 with e2 | v
    · have h := sum_inl h
      exact eLeaf (θ := (fun (o : ST) => (mkM K R o))) h rfl
    · have h := sum_inr h
      exact eLeaf (θ := (fun (o : ST) => (mkM K R o))) h rfl
-- OnlyUpwardModel.is(I)Z
set_option maxRecDepth 100000 in
set_option maxHeartbeats 4000000 in
def E_X12_is (n : Nat) (S : ST) (a1 : Int32) : Option Int32 :=
  if (S.1 95 13) = 0 then (rd (S.1 98) 403 (S.1 95 11)).bind fun v2 => if v2 = a1 then some (1 : Int32) else some (0 : Int32) else some (0 : Int32)
set_option maxRecDepth 100000 in
set_option maxHeartbeats 4000000 in
theorem E_X12_is_ok {n : Nat} (hn : 30000 ≤ n) {K : AK} {R : Nat → Nat → Option Nat} {S : ST} {a1 : Int32} {tz en : Nat} (hL : Lay K R tz en) {o : Int32} (h : E_X12_is n S a1 = some o) : F_X12_is n (mkM K R S) 95 a1 = some o := by
  unfold E_X12_is at h
  unfold F_X12_is
  refine eGI (kd_95 hL) (Nat.le_of_ble_eq_true rfl) ?_
  refine eIF h (fun c1 h => ?_) (fun c1 h => ?_)
  · refine eGR (kd_95 hL) (Nat.le_of_ble_eq_true rfl) (rd_95_5 hL) ?_
    refine eGI (kd_95 hL) (Nat.le_of_ble_eq_true rfl) ?_
    refine eRI (kd_98 hL) h (fun v2 h => ?_)
    refine eIF h (fun c3 h => ?_) (fun c3 h => ?_)
    · exact eLeaf (θ := (fun (o : Int32) => o)) h rfl
    · exact eLeaf (θ := (fun (o : Int32) => o)) h rfl
  · exact eLeaf (θ := (fun (o : Int32) => o)) h rfl
-- OnlyUpwardModel.room(I)I
set_option maxRecDepth 100000 in
set_option maxHeartbeats 4000000 in
def E_X12_room (n : Nat) (S : ST) (a1 : Int32) : Option Int32 :=
  if a1 = (0 : Int32) then some (6 : Int32) else if a1 = (1 : Int32) then some (10 : Int32) else if a1 = (2 : Int32) then some (6 : Int32) else if a1 = (3 : Int32) then some (8 : Int32) else if a1 = (4 : Int32) then some (20 : Int32) else if a1 = (5 : Int32) then some (12 : Int32) else if a1 = (6 : Int32) then some (12 : Int32) else if a1 = (7 : Int32) then some (6 : Int32) else some (12 : Int32)
set_option maxRecDepth 100000 in
set_option maxHeartbeats 4000000 in
theorem E_X12_room_ok {n : Nat} (hn : 30000 ≤ n) {K : AK} {R : Nat → Nat → Option Nat} {S : ST} {a1 : Int32} {tz en : Nat} (hL : Lay K R tz en) {o : Int32} (h : E_X12_room n S a1 = some o) : F_X12_room n (mkM K R S) 95 a1 = some o := by
  unfold E_X12_room at h
  unfold F_X12_room
  refine eIF h (fun c1 h => ?_) (fun c1 h => ?_)
  · exact eLeaf (θ := (fun (o : Int32) => o)) h rfl
  · refine eIF h (fun c2 h => ?_) (fun c2 h => ?_)
    · exact eLeaf (θ := (fun (o : Int32) => o)) h rfl
    · refine eIF h (fun c3 h => ?_) (fun c3 h => ?_)
      · exact eLeaf (θ := (fun (o : Int32) => o)) h rfl
      · refine eIF h (fun c4 h => ?_) (fun c4 h => ?_)
        · exact eLeaf (θ := (fun (o : Int32) => o)) h rfl
        · refine eIF h (fun c5 h => ?_) (fun c5 h => ?_)
          · exact eLeaf (θ := (fun (o : Int32) => o)) h rfl
          · refine eIF h (fun c6 h => ?_) (fun c6 h => ?_)
            · exact eLeaf (θ := (fun (o : Int32) => o)) h rfl
            · refine eIF h (fun c7 h => ?_) (fun c7 h => ?_)
              · exact eLeaf (θ := (fun (o : Int32) => o)) h rfl
              · refine eIF h (fun c8 h => ?_) (fun c8 h => ?_)
                · exact eLeaf (θ := (fun (o : Int32) => o)) h rfl
                · exact eLeaf (θ := (fun (o : Int32) => o)) h rfl
-- OnlyUpwardModel.fail(I)V
set_option maxRecDepth 100000 in
set_option maxHeartbeats 4000000 in
def E_X12_fail (n : Nat) (S : ST) (a1 : Int32) : Option ST :=
  if (S.1 95 13) ≤ 0 then lets (upI S 95 13 a1) fun (S2 : ST) => (rd (S2.1 99) 403 (S2.1 95 11)).bind fun v3 => lets (upI S2 95 14 v3) fun (S4 : ST) => some S4 else some S
set_option maxRecDepth 100000 in
set_option maxHeartbeats 4000000 in
theorem E_X12_fail_ok {n : Nat} (hn : 30000 ≤ n) {K : AK} {R : Nat → Nat → Option Nat} {S : ST} {a1 : Int32} {tz en : Nat} (hL : Lay K R tz en) {o : ST} (h : E_X12_fail n S a1 = some o) : F_X12_fail n (mkM K R S) 95 a1 = some (mkM K R o) := by
  unfold E_X12_fail at h
  unfold F_X12_fail
  refine eGI (kd_95 hL) (Nat.le_of_ble_eq_true rfl) ?_
  refine eIF h (fun c1 h => ?_) (fun c1 h => ?_)
  · refine ePI (kd_95 hL) (Nat.le_of_ble_eq_true rfl) h (fun S2 h => ?_)
    refine eGR (kd_95 hL) (Nat.le_of_ble_eq_true rfl) (rd_95_6 hL) ?_
    refine eGI (kd_95 hL) (Nat.le_of_ble_eq_true rfl) ?_
    refine eRI (kd_99 hL) h (fun v3 h => ?_)
    refine ePI (kd_95 hL) (Nat.le_of_ble_eq_true rfl) h (fun S4 h => ?_)
    exact eLeaf (θ := (fun (o : ST) => (mkM K R o))) h rfl
  · exact eLeaf (θ := (fun (o : ST) => (mkM K R o))) h rfl
-- OnlyUpwardModel.goesOn()V
set_option maxRecDepth 100000 in
set_option maxHeartbeats 4000000 in
def E_X12_goesOn (n : Nat) (S : ST) : Option ST :=
  if (S.1 95 11) = (400 : Int32) then (E_X12_fail n S (2 : Int32)).bind fun S3 => some S3 else lets (upI S 95 11 ((S.1 95 11) + (1 : Int32))) fun (S4 : ST) => some S4
set_option maxRecDepth 100000 in
set_option maxHeartbeats 4000000 in
theorem E_X12_goesOn_ok {n : Nat} (hn : 30000 ≤ n) {K : AK} {R : Nat → Nat → Option Nat} {S : ST} {tz en : Nat} (hL : Lay K R tz en) {o : ST} (h : E_X12_goesOn n S  = some o) : F_X12_goesOn n (mkM K R S) 95 = some (mkM K R o) := by
  unfold E_X12_goesOn at h
  unfold F_X12_goesOn
  refine eGI (kd_95 hL) (Nat.le_of_ble_eq_true rfl) ?_
  refine eIF h (fun c1 h => ?_) (fun c1 h => ?_)
  · refine eCwV (kd_95 hL) (Nat.le_of_ble_eq_true rfl) (fun _ hv => E_X12_fail_ok hn hL hv) h (fun S3 h => ?_)
    exact eLeaf (θ := (fun (o : ST) => (mkM K R o))) h rfl
  · refine eGI (kd_95 hL) (Nat.le_of_ble_eq_true rfl) ?_
    refine ePI (kd_95 hL) (Nat.le_of_ble_eq_true rfl) h (fun S4 h => ?_)
    exact eLeaf (θ := (fun (o : ST) => (mkM K R o))) h rfl
-- OnlyUpwardModel.next(I)I
set_option maxRecDepth 100000 in
set_option maxHeartbeats 4000000 in
def E_X12_next (n : Nat) (S : ST) (a1 : Int32) : Option (Int32 × ST) :=
  (rd (S.1 106) 16 (((8 : Int32) * (S.1 95 19)) + a1)).bind fun v1 => (E_X12_room n S a1).bind fun v2 => jn (fun (S3 : ST) => if (S3.1 95 13) ≤ 0 then (E_X12_goesOn n S3 ).bind fun S6 => some (v1, S6) else some ((-1 : Int32), S3)) fun j7 => if v1 = v2 then (E_X12_fail n S (2 : Int32)).bind fun S10 => j7 S10 else j7 S
set_option maxRecDepth 100000 in
set_option maxHeartbeats 4000000 in
theorem E_X12_next_ok {n : Nat} (hn : 30000 ≤ n) {K : AK} {R : Nat → Nat → Option Nat} {S : ST} {a1 : Int32} {tz en : Nat} (hL : Lay K R tz en) {o : (Int32 × ST)} (h : E_X12_next n S a1 = some o) : F_X12_next n (mkM K R S) 95 a1 = some (o.1, mkM K R o.2) := by
  unfold E_X12_next at h
  unfold F_X12_next
  refine eGR (kd_95 hL) (Nat.le_of_ble_eq_true rfl) (rd_95_24 hL) ?_
  refine eGI (kd_95 hL) (Nat.le_of_ble_eq_true rfl) ?_
  refine eRI (kd_106 hL) h (fun v1 h => ?_)
  refine eCV (kd_95 hL) (Nat.le_of_ble_eq_true rfl) (fun _ hv => E_X12_room_ok hn hL hv) h (fun v2 h => ?_)
  refine eJN (fun j7 fj7 => ∀ (S3 : ST), j7 S3 = some o → fj7 (mkM K R S3) = some (o.1, mkM K R o.2)) h ?_ ?_
  · intro S3 h
    refine eGI (kd_95 hL) (Nat.le_of_ble_eq_true rfl) ?_
    refine eIF h (fun c4 h => ?_) (fun c4 h => ?_)
    · refine eCwV (kd_95 hL) (Nat.le_of_ble_eq_true rfl) (fun _ hv => E_X12_goesOn_ok hn hL hv) h (fun S6 h => ?_)
      exact eLeaf (θ := (fun (o : (Int32 × ST)) => (o.1, mkM K R o.2))) h rfl
    · exact eLeaf (θ := (fun (o : (Int32 × ST)) => (o.1, mkM K R o.2))) h rfl
  · intro j7 fj7 Jj7 h
    refine eIF h (fun c8 h => ?_) (fun c8 h => ?_)
    · refine eCwV (kd_95 hL) (Nat.le_of_ble_eq_true rfl) (fun _ hv => E_X12_fail_ok hn hL hv) h (fun S10 h => ?_)
      exact Jj7 _ h
    · exact Jj7 _ h
-- OnlyUpwardModel.must(I)V
set_option maxRecDepth 100000 in
set_option maxHeartbeats 4000000 in
def E_X12_must (n : Nat) (S : ST) (a1 : Int32) : Option ST :=
  (E_X12_is n S a1).bind fun v1 => if v1 = 0 then (E_X12_fail n S (1 : Int32)).bind fun S4 => some S4 else (E_X12_goesOn n S ).bind fun S6 => some S6
set_option maxRecDepth 100000 in
set_option maxHeartbeats 4000000 in
theorem E_X12_must_ok {n : Nat} (hn : 30000 ≤ n) {K : AK} {R : Nat → Nat → Option Nat} {S : ST} {a1 : Int32} {tz en : Nat} (hL : Lay K R tz en) {o : ST} (h : E_X12_must n S a1 = some o) : F_X12_must n (mkM K R S) 95 a1 = some (mkM K R o) := by
  unfold E_X12_must at h
  unfold F_X12_must
  refine eCV (kd_95 hL) (Nat.le_of_ble_eq_true rfl) (fun _ hv => E_X12_is_ok hn hL hv) h (fun v1 h => ?_)
  refine eIF h (fun c2 h => ?_) (fun c2 h => ?_)
  · refine eCwV (kd_95 hL) (Nat.le_of_ble_eq_true rfl) (fun _ hv => E_X12_fail_ok hn hL hv) h (fun S4 h => ?_)
    exact eLeaf (θ := (fun (o : ST) => (mkM K R o))) h rfl
  · refine eCwV (kd_95 hL) (Nat.le_of_ble_eq_true rfl) (fun _ hv => E_X12_goesOn_ok hn hL hv) h (fun S6 h => ?_)
    exact eLeaf (θ := (fun (o : ST) => (mkM K R o))) h rfl
-- OnlyUpwardModel.wrong(II)V
set_option maxRecDepth 100000 in
set_option maxHeartbeats 4000000 in
def E_X12_wrong (n : Nat) (S : ST) (a1 : Int32) (a2 : Int32) : Option ST :=
  (rd (S.1 99) 403 a2).bind fun v1 => if 0 < (S.1 95 13) then some S else jn (lets (upI S 95 15 a1) fun (S3 : ST) => lets (upI S3 95 16 v1) fun (S4 : ST) => some S4) fun j5 => if (S.1 95 15) = 0 then j5 else if (S.1 95 16) < v1 then some S else if v1 = (S.1 95 16) then if a1 < (S.1 95 15) then j5 else some S else j5
set_option maxRecDepth 100000 in
set_option maxHeartbeats 4000000 in
theorem E_X12_wrong_ok {n : Nat} (hn : 30000 ≤ n) {K : AK} {R : Nat → Nat → Option Nat} {S : ST} {a1 : Int32} {a2 : Int32} {tz en : Nat} (hL : Lay K R tz en) {o : ST} (h : E_X12_wrong n S a1 a2 = some o) : F_X12_wrong n (mkM K R S) 95 a1 a2 = some (mkM K R o) := by
  unfold E_X12_wrong at h
  unfold F_X12_wrong
  refine eGR (kd_95 hL) (Nat.le_of_ble_eq_true rfl) (rd_95_6 hL) ?_
  refine eRI (kd_99 hL) h (fun v1 h => ?_)
  refine eGI (kd_95 hL) (Nat.le_of_ble_eq_true rfl) ?_
  refine eIF h (fun c2 h => ?_) (fun c2 h => ?_)
  · exact eLeaf (θ := (fun (o : ST) => (mkM K R o))) h rfl
  · refine eGI (kd_95 hL) (Nat.le_of_ble_eq_true rfl) ?_
    refine eJN (fun j5 fj5 => j5 = some o → fj5 = some (mkM K R o)) h ?_ ?_
    · intro h
      refine ePI (kd_95 hL) (Nat.le_of_ble_eq_true rfl) h (fun S3 h => ?_)
      refine ePI (kd_95 hL) (Nat.le_of_ble_eq_true rfl) h (fun S4 h => ?_)
      exact eLeaf (θ := (fun (o : ST) => (mkM K R o))) h rfl
    · intro j5 fj5 Jj5 h
      refine eIF h (fun c6 h => ?_) (fun c6 h => ?_)
      · exact Jj5 h
      · refine eGI (kd_95 hL) (Nat.le_of_ble_eq_true rfl) ?_
        refine eIF h (fun c7 h => ?_) (fun c7 h => ?_)
        · exact eLeaf (θ := (fun (o : ST) => (mkM K R o))) h rfl
        · refine eGI (kd_95 hL) (Nat.le_of_ble_eq_true rfl) ?_
          refine eIF h (fun c8 h => ?_) (fun c8 h => ?_)
          · refine eGI (kd_95 hL) (Nat.le_of_ble_eq_true rfl) ?_
            refine eIF h (fun c9 h => ?_) (fun c9 h => ?_)
            · exact Jj5 h
            · exact eLeaf (θ := (fun (o : ST) => (mkM K R o))) h rfl
          · exact Jj5 h
-- OnlyUpwardModel.named()I
set_option maxRecDepth 100000 in
set_option maxHeartbeats 4000000 in
def E_X12_named (n : Nat) (S : ST) : Option (Int32 × ST) :=
  (E_X12_must n S (1 : Int32)).bind fun S2 => (iter (fun (s3 : Int32 × ST) => if (s3.2.1 95 20) ≤ s3.1 then some (.inr s3.2) else if (s3.2.1 95 13) = 0 then (rd (s3.2.2 103) 32 s3.1).bind fun v6 => (rd (s3.2.2 101) 403 (S.1 95 11)).bind fun v7 => jn (fun (S8 : ST) => some (.inl ((s3.1 + (1 : Int32)), S8))) fun j9 => if (lg_cmp v6 v7) = 0 then (E_X12_wrong n s3.2 (3 : Int32) (S.1 95 11)).bind fun S12 => j9 S12 else j9 s3.2 else some (.inr s3.2)) n ((0 : Int32), S2)).bind fun (e3 : ST) => some ((S.1 95 11), e3)
set_option maxRecDepth 100000 in
set_option maxHeartbeats 4000000 in
theorem E_X12_named_ok {n : Nat} (hn : 30000 ≤ n) {K : AK} {R : Nat → Nat → Option Nat} {S : ST} {tz en : Nat} (hL : Lay K R tz en) {o : (Int32 × ST)} (h : E_X12_named n S  = some o) : F_X12_named n (mkM K R S) 95 = some (o.1, mkM K R o.2) := by
  unfold E_X12_named at h
  unfold F_X12_named
  refine eGI (kd_95 hL) (Nat.le_of_ble_eq_true rfl) ?_
  refine eCwV (kd_95 hL) (Nat.le_of_ble_eq_true rfl) (fun _ hv => E_X12_must_ok hn hL hv) h (fun S2 h => ?_)
  refine eLP (fun (s3 : Int32 × ST) => (s3.1, mkM K R s3.2)) (fun (e3 : ST) => mkM K R e3) h rfl ?_ ?_
  · intro s3 x3 h
    refine eGI (kd_95 hL) (Nat.le_of_ble_eq_true rfl) ?_
    refine eIF h (fun c4 h => ?_) (fun c4 h => ?_)
    · exact eLeaf (θ := (Sum.map (fun (s3 : Int32 × ST) => (s3.1, mkM K R s3.2)) (fun (e3 : ST) => mkM K R e3))) h rfl
    · refine eGI (kd_95 hL) (Nat.le_of_ble_eq_true rfl) ?_
      refine eIF h (fun c5 h => ?_) (fun c5 h => ?_)
      · refine eGR (kd_95 hL) (Nat.le_of_ble_eq_true rfl) (rd_95_21 hL) ?_
        refine eRL (kd_103 hL) (Nat.le_of_ble_eq_true rfl) h (fun v6 h => ?_)
        refine eGR (kd_95 hL) (Nat.le_of_ble_eq_true rfl) (rd_95_8 hL) ?_
        refine eRL (kd_101 hL) (Nat.le_of_ble_eq_true rfl) h (fun v7 h => ?_)
        refine eJN (fun j9 fj9 => ∀ (S8 : ST), j9 S8 = some x3 → fj9 (mkM K R S8) = some (Sum.map (fun (s3 : Int32 × ST) => (s3.1, mkM K R s3.2)) (fun (e3 : ST) => mkM K R e3) x3)) h ?_ ?_
        · intro S8 h
          exact eLeaf (θ := (Sum.map (fun (s3 : Int32 × ST) => (s3.1, mkM K R s3.2)) (fun (e3 : ST) => mkM K R e3))) h rfl
        · intro j9 fj9 Jj9 h
          refine eIF h (fun c10 h => ?_) (fun c10 h => ?_)
          · refine eCwV (kd_95 hL) (Nat.le_of_ble_eq_true rfl) (fun _ hv => E_X12_wrong_ok hn hL hv) h (fun S12 h => ?_)
            exact Jj9 _ h
          · exact Jj9 _ h
      · exact eLeaf (θ := (Sum.map (fun (s3 : Int32 × ST) => (s3.1, mkM K R s3.2)) (fun (e3 : ST) => mkM K R e3))) h rfl
  · intro e3 h
    exact eLeaf (θ := (fun (o : (Int32 × ST)) => (o.1, mkM K R o.2))) h rfl
-- OnlyUpwardModel.comes(I)V
set_option maxRecDepth 100000 in
set_option maxHeartbeats 4000000 in
def E_X12_comes (n : Nat) (S : ST) (a1 : Int32) : Option ST :=
  (E_X12_must n S (4 : Int32)).bind fun S2 => if (S2.1 95 13) = 0 then (rd (S2.1 106) 16 (((8 : Int32) * (S2.1 95 19)) + a1)).bind fun v4 => (wr S2 106 16 (((8 : Int32) * (S2.1 95 19)) + a1) (v4 + (1 : Int32))).bind fun S5 => some S5 else some S2
set_option maxRecDepth 100000 in
set_option maxHeartbeats 4000000 in
theorem E_X12_comes_ok {n : Nat} (hn : 30000 ≤ n) {K : AK} {R : Nat → Nat → Option Nat} {S : ST} {a1 : Int32} {tz en : Nat} (hL : Lay K R tz en) {o : ST} (h : E_X12_comes n S a1 = some o) : F_X12_comes n (mkM K R S) 95 a1 = some (mkM K R o) := by
  unfold E_X12_comes at h
  unfold F_X12_comes
  refine eCwV (kd_95 hL) (Nat.le_of_ble_eq_true rfl) (fun _ hv => E_X12_must_ok hn hL hv) h (fun S2 h => ?_)
  refine eGI (kd_95 hL) (Nat.le_of_ble_eq_true rfl) ?_
  refine eIF h (fun c3 h => ?_) (fun c3 h => ?_)
  · refine eGR (kd_95 hL) (Nat.le_of_ble_eq_true rfl) (rd_95_24 hL) ?_
    refine eGI (kd_95 hL) (Nat.le_of_ble_eq_true rfl) ?_
    refine eRI (kd_106 hL) h (fun v4 h => ?_)
    refine eWI (kd_106 hL) (Nat.le_of_ble_eq_true rfl) h (fun S5 h => ?_)
    exact eLeaf (θ := (fun (o : ST) => (mkM K R o))) h rfl
  · exact eLeaf (θ := (fun (o : ST) => (mkM K R o))) h rfl
-- OnlyUpwardModel.notes(III)V
set_option maxRecDepth 100000 in
set_option maxHeartbeats 4000000 in
def E_X12_notes (n : Nat) (S : ST) (a1 : Int32) (a2 : Int32) (a3 : Int32) : Option ST :=
  if (S.1 95 13) ≤ 0 then (rd (S.2 101) 403 a1).bind fun v2 => (wrl S 103 32 (S.1 95 20) v2).bind fun S3 => (wr S3 104 32 (S3.1 95 20) a2).bind fun S4 => (wr S4 105 32 (S4.1 95 20) a3).bind fun S5 => lets (upI S5 95 20 ((S5.1 95 20) + (1 : Int32))) fun (S6 : ST) => some S6 else some S
set_option maxRecDepth 100000 in
set_option maxHeartbeats 4000000 in
theorem E_X12_notes_ok {n : Nat} (hn : 30000 ≤ n) {K : AK} {R : Nat → Nat → Option Nat} {S : ST} {a1 : Int32} {a2 : Int32} {a3 : Int32} {tz en : Nat} (hL : Lay K R tz en) {o : ST} (h : E_X12_notes n S a1 a2 a3 = some o) : F_X12_notes n (mkM K R S) 95 a1 a2 a3 = some (mkM K R o) := by
  unfold E_X12_notes at h
  unfold F_X12_notes
  refine eGI (kd_95 hL) (Nat.le_of_ble_eq_true rfl) ?_
  refine eIF h (fun c1 h => ?_) (fun c1 h => ?_)
  · refine eGR (kd_95 hL) (Nat.le_of_ble_eq_true rfl) (rd_95_21 hL) ?_
    refine eGI (kd_95 hL) (Nat.le_of_ble_eq_true rfl) ?_
    refine eGR (kd_95 hL) (Nat.le_of_ble_eq_true rfl) (rd_95_8 hL) ?_
    refine eRL (kd_101 hL) (Nat.le_of_ble_eq_true rfl) h (fun v2 h => ?_)
    refine eWL (kd_103 hL) (Nat.le_of_ble_eq_true rfl) h (fun S3 h => ?_)
    refine eGR (kd_95 hL) (Nat.le_of_ble_eq_true rfl) (rd_95_22 hL) ?_
    refine eGI (kd_95 hL) (Nat.le_of_ble_eq_true rfl) ?_
    refine eWI (kd_104 hL) (Nat.le_of_ble_eq_true rfl) h (fun S4 h => ?_)
    refine eGR (kd_95 hL) (Nat.le_of_ble_eq_true rfl) (rd_95_23 hL) ?_
    refine eGI (kd_95 hL) (Nat.le_of_ble_eq_true rfl) ?_
    refine eWI (kd_105 hL) (Nat.le_of_ble_eq_true rfl) h (fun S5 h => ?_)
    refine eGI (kd_95 hL) (Nat.le_of_ble_eq_true rfl) ?_
    refine ePI (kd_95 hL) (Nat.le_of_ble_eq_true rfl) h (fun S6 h => ?_)
    exact eLeaf (θ := (fun (o : ST) => (mkM K R o))) h rfl
  · exact eLeaf (θ := (fun (o : ST) => (mkM K R o))) h rfl
-- OnlyUpwardModel.bounded(II)I
set_option maxRecDepth 100000 in
set_option maxHeartbeats 4000000 in
def E_X12_bounded (n : Nat) (S : ST) (a1 : Int32) (a2 : Int32) : Option (Int32 × ST) :=
  jn ((E_X12_fail n S (1 : Int32)).bind fun S2 => some (a1, S2)) fun j3 => if 0 < (S.1 95 13) then j3 else (E_X12_is n S (2 : Int32)).bind fun v5 => if v5 = 0 then j3 else (rd (S.1 100) 403 (S.1 95 11)).bind fun v7 => jn (fun (S8 : ST) => (E_X12_goesOn n S8 ).bind fun S10 => some (v7, S10)) fun j11 => jn ((E_X12_wrong n S (5 : Int32) (S.1 95 11)).bind fun S13 => j11 S13) fun j14 => if v7 < a1 then j14 else if v7 ≤ a2 then j11 S else j14
set_option maxRecDepth 100000 in
set_option maxHeartbeats 4000000 in
theorem E_X12_bounded_ok {n : Nat} (hn : 30000 ≤ n) {K : AK} {R : Nat → Nat → Option Nat} {S : ST} {a1 : Int32} {a2 : Int32} {tz en : Nat} (hL : Lay K R tz en) {o : (Int32 × ST)} (h : E_X12_bounded n S a1 a2 = some o) : F_X12_bounded n (mkM K R S) 95 a1 a2 = some (o.1, mkM K R o.2) := by
  unfold E_X12_bounded at h
  unfold F_X12_bounded
  refine eGI (kd_95 hL) (Nat.le_of_ble_eq_true rfl) ?_
  refine eJN (fun j3 fj3 => j3 = some o → fj3 = some (o.1, mkM K R o.2)) h ?_ ?_
  · intro h
    refine eCwV (kd_95 hL) (Nat.le_of_ble_eq_true rfl) (fun _ hv => E_X12_fail_ok hn hL hv) h (fun S2 h => ?_)
    exact eLeaf (θ := (fun (o : (Int32 × ST)) => (o.1, mkM K R o.2))) h rfl
  · intro j3 fj3 Jj3 h
    refine eIF h (fun c4 h => ?_) (fun c4 h => ?_)
    · exact Jj3 h
    · refine eCV (kd_95 hL) (Nat.le_of_ble_eq_true rfl) (fun _ hv => E_X12_is_ok hn hL hv) h (fun v5 h => ?_)
      refine eIF h (fun c6 h => ?_) (fun c6 h => ?_)
      · exact Jj3 h
      · refine eGR (kd_95 hL) (Nat.le_of_ble_eq_true rfl) (rd_95_7 hL) ?_
        refine eGI (kd_95 hL) (Nat.le_of_ble_eq_true rfl) ?_
        refine eRI (kd_100 hL) h (fun v7 h => ?_)
        refine eJN (fun j11 fj11 => ∀ (S8 : ST), j11 S8 = some o → fj11 (mkM K R S8) = some (o.1, mkM K R o.2)) h ?_ ?_
        · intro S8 h
          refine eCwV (kd_95 hL) (Nat.le_of_ble_eq_true rfl) (fun _ hv => E_X12_goesOn_ok hn hL hv) h (fun S10 h => ?_)
          exact eLeaf (θ := (fun (o : (Int32 × ST)) => (o.1, mkM K R o.2))) h rfl
        · intro j11 fj11 Jj11 h
          refine eJN (fun j14 fj14 => j14 = some o → fj14 = some (o.1, mkM K R o.2)) h ?_ ?_
          · intro h
            refine eGI (kd_95 hL) (Nat.le_of_ble_eq_true rfl) ?_
            refine eCwV (kd_95 hL) (Nat.le_of_ble_eq_true rfl) (fun _ hv => E_X12_wrong_ok hn hL hv) h (fun S13 h => ?_)
            exact Jj11 _ h
          · intro j14 fj14 Jj14 h
            refine eIF h (fun c15 h => ?_) (fun c15 h => ?_)
            · exact Jj14 h
            · refine eIF h (fun c16 h => ?_) (fun c16 h => ?_)
              · exact Jj11 _ h
              · exact Jj14 h
-- OnlyUpwardModel.tellPerson()V
set_option maxRecDepth 100000 in
set_option maxHeartbeats 4000000 in
def E_X12_tellPerson (n : Nat) (S : ST) : Option ST :=
  (E_X12_next n S (1 : Int32)).bind fun v1 => (E_X12_named n v1.2 ).bind fun v2 => (E_X12_bounded n v2.2 (0 : Int32) (99 : Int32)).bind fun v3 => jn (fun (u4 : Int32) (S5 : ST) => (E_X12_comes n S5 (1 : Int32)).bind fun S7 => (E_X12_notes n S7 v2.1 (1 : Int32) v1.1).bind fun S9 => if (S9.1 95 13) ≤ 0 then (wr S9 108 20 (((10 : Int32) * (S9.1 95 19)) + v1.1) v3.1).bind fun S11 => (wr S11 109 20 (((10 : Int32) * (S11.1 95 19)) + v1.1) u4).bind fun S12 => some S12 else some S9) fun j13 => if (v3.2.1 95 13) = 0 then (E_X12_is n v3.2 (22 : Int32)).bind fun v15 => if v15 = 0 then j13 (99 : Int32) v3.2 else (E_X12_goesOn n v3.2 ).bind fun S18 => (E_X12_bounded n S18 (0 : Int32) (23 : Int32)).bind fun v19 => j13 v19.1 v19.2 else j13 (99 : Int32) v3.2
set_option maxRecDepth 100000 in
set_option maxHeartbeats 4000000 in
theorem E_X12_tellPerson_ok {n : Nat} (hn : 30000 ≤ n) {K : AK} {R : Nat → Nat → Option Nat} {S : ST} {tz en : Nat} (hL : Lay K R tz en) {o : ST} (h : E_X12_tellPerson n S  = some o) : F_X12_tellPerson n (mkM K R S) 95 = some (mkM K R o) := by
  unfold E_X12_tellPerson at h
  unfold F_X12_tellPerson
  refine eCwiV (kd_95 hL) (Nat.le_of_ble_eq_true rfl) (fun _ hv => E_X12_next_ok hn hL hv) h (fun v1 h => ?_)
  refine eCwiV (kd_95 hL) (Nat.le_of_ble_eq_true rfl) (fun _ hv => E_X12_named_ok hn hL hv) h (fun v2 h => ?_)
  refine eCwiV (kd_95 hL) (Nat.le_of_ble_eq_true rfl) (fun _ hv => E_X12_bounded_ok hn hL hv) h (fun v3 h => ?_)
  refine eGI (kd_95 hL) (Nat.le_of_ble_eq_true rfl) ?_
  refine eJN (fun j13 fj13 => ∀ (u4 : Int32) (S5 : ST), j13 u4 S5 = some o → fj13 u4 (mkM K R S5) = some (mkM K R o)) h ?_ ?_
  · intro u4 S5 h
    refine eCwV (kd_95 hL) (Nat.le_of_ble_eq_true rfl) (fun _ hv => E_X12_comes_ok hn hL hv) h (fun S7 h => ?_)
    refine eCwV (kd_95 hL) (Nat.le_of_ble_eq_true rfl) (fun _ hv => E_X12_notes_ok hn hL hv) h (fun S9 h => ?_)
    refine eGI (kd_95 hL) (Nat.le_of_ble_eq_true rfl) ?_
    refine eIF h (fun c10 h => ?_) (fun c10 h => ?_)
    · refine eGR (kd_95 hL) (Nat.le_of_ble_eq_true rfl) (rd_95_26 hL) ?_
      refine eGI (kd_95 hL) (Nat.le_of_ble_eq_true rfl) ?_
      refine eWI (kd_108 hL) (Nat.le_of_ble_eq_true rfl) h (fun S11 h => ?_)
      refine eGR (kd_95 hL) (Nat.le_of_ble_eq_true rfl) (rd_95_27 hL) ?_
      refine eGI (kd_95 hL) (Nat.le_of_ble_eq_true rfl) ?_
      refine eWI (kd_109 hL) (Nat.le_of_ble_eq_true rfl) h (fun S12 h => ?_)
      exact eLeaf (θ := (fun (o : ST) => (mkM K R o))) h rfl
    · exact eLeaf (θ := (fun (o : ST) => (mkM K R o))) h rfl
  · intro j13 fj13 Jj13 h
    refine eIF h (fun c14 h => ?_) (fun c14 h => ?_)
    · refine eCV (kd_95 hL) (Nat.le_of_ble_eq_true rfl) (fun _ hv => E_X12_is_ok hn hL hv) h (fun v15 h => ?_)
      refine eIF h (fun c16 h => ?_) (fun c16 h => ?_)
      · exact Jj13 _ _ h
      · refine eCwV (kd_95 hL) (Nat.le_of_ble_eq_true rfl) (fun _ hv => E_X12_goesOn_ok hn hL hv) h (fun S18 h => ?_)
        refine eCwiV (kd_95 hL) (Nat.le_of_ble_eq_true rfl) (fun _ hv => E_X12_bounded_ok hn hL hv) h (fun v19 h => ?_)
        exact Jj13 _ _ h
    · exact Jj13 _ _ h
-- OnlyUpwardModel.known(I)I
set_option maxRecDepth 100000 in
set_option maxHeartbeats 4000000 in
def E_X12_known (n : Nat) (S : ST) (a1 : Int32) : Option (Int32 × ST) :=
  (E_X12_must n S (1 : Int32)).bind fun S2 => if (S2.1 95 13) ≤ 0 then (iter (fun (s4 : Int32 × Int32) => if (S2.1 95 20) ≤ s4.2 then some (.inr s4.1) else jn (fun (u6 : Int32) => some (.inl (u6, (s4.2 + (1 : Int32))))) fun j7 => if s4.1 = (-1 : Int32) then (rd (S2.2 103) 32 s4.2).bind fun v9 => (rd (S2.2 101) 403 (S.1 95 11)).bind fun v10 => if (lg_cmp v9 v10) = 0 then (rd (S2.1 104) 32 s4.2).bind fun v12 => if v12 = a1 then (rd (S2.1 105) 32 s4.2).bind fun v14 => j7 v14 else j7 s4.1 else j7 s4.1 else j7 s4.1) n ((-1 : Int32), (0 : Int32))).bind fun (e4 : Int32) => if e4 = (-1 : Int32) then (E_X12_wrong n S2 (4 : Int32) (S.1 95 11)).bind fun S17 => some (e4, S17) else some (e4, S2) else some ((-1 : Int32), S2)
set_option maxRecDepth 100000 in
set_option maxHeartbeats 4000000 in
theorem E_X12_known_ok {n : Nat} (hn : 30000 ≤ n) {K : AK} {R : Nat → Nat → Option Nat} {S : ST} {a1 : Int32} {tz en : Nat} (hL : Lay K R tz en) {o : (Int32 × ST)} (h : E_X12_known n S a1 = some o) : F_X12_known n (mkM K R S) 95 a1 = some (o.1, mkM K R o.2) := by
  unfold E_X12_known at h
  unfold F_X12_known
  refine eGI (kd_95 hL) (Nat.le_of_ble_eq_true rfl) ?_
  refine eCwV (kd_95 hL) (Nat.le_of_ble_eq_true rfl) (fun _ hv => E_X12_must_ok hn hL hv) h (fun S2 h => ?_)
  refine eGI (kd_95 hL) (Nat.le_of_ble_eq_true rfl) ?_
  refine eIF h (fun c3 h => ?_) (fun c3 h => ?_)
  · refine eLP (fun (s4 : Int32 × Int32) => s4) (fun (e4 : Int32) => e4) h rfl ?_ ?_
    · intro s4 x4 h
      refine eGI (kd_95 hL) (Nat.le_of_ble_eq_true rfl) ?_
      refine eIF h (fun c5 h => ?_) (fun c5 h => ?_)
      · exact eLeaf (θ := (Sum.map (fun (s4 : Int32 × Int32) => s4) (fun (e4 : Int32) => e4))) h rfl
      · refine eJN (fun j7 fj7 => ∀ (u6 : Int32), j7 u6 = some x4 → fj7 u6 = some (Sum.map (fun (s4 : Int32 × Int32) => s4) (fun (e4 : Int32) => e4) x4)) h ?_ ?_
        · intro u6 h
          exact eLeaf (θ := (Sum.map (fun (s4 : Int32 × Int32) => s4) (fun (e4 : Int32) => e4))) h rfl
        · intro j7 fj7 Jj7 h
          refine eIF h (fun c8 h => ?_) (fun c8 h => ?_)
          · refine eGR (kd_95 hL) (Nat.le_of_ble_eq_true rfl) (rd_95_21 hL) ?_
            refine eRL (kd_103 hL) (Nat.le_of_ble_eq_true rfl) h (fun v9 h => ?_)
            refine eGR (kd_95 hL) (Nat.le_of_ble_eq_true rfl) (rd_95_8 hL) ?_
            refine eRL (kd_101 hL) (Nat.le_of_ble_eq_true rfl) h (fun v10 h => ?_)
            refine eIF h (fun c11 h => ?_) (fun c11 h => ?_)
            · refine eGR (kd_95 hL) (Nat.le_of_ble_eq_true rfl) (rd_95_22 hL) ?_
              refine eRI (kd_104 hL) h (fun v12 h => ?_)
              refine eIF h (fun c13 h => ?_) (fun c13 h => ?_)
              · refine eGR (kd_95 hL) (Nat.le_of_ble_eq_true rfl) (rd_95_23 hL) ?_
                refine eRI (kd_105 hL) h (fun v14 h => ?_)
                exact Jj7 _ h
              · exact Jj7 _ h
            · exact Jj7 _ h
          · exact Jj7 _ h
    · intro e4 h
      refine eIF h (fun c15 h => ?_) (fun c15 h => ?_)
      · refine eCwV (kd_95 hL) (Nat.le_of_ble_eq_true rfl) (fun _ hv => E_X12_wrong_ok hn hL hv) h (fun S17 h => ?_)
        exact eLeaf (θ := (fun (o : (Int32 × ST)) => (o.1, mkM K R o.2))) h rfl
      · exact eLeaf (θ := (fun (o : (Int32 × ST)) => (o.1, mkM K R o.2))) h rfl
  · exact eLeaf (θ := (fun (o : (Int32 × ST)) => (o.1, mkM K R o.2))) h rfl
-- OnlyUpwardModel.tellStay()V
set_option maxRecDepth 100000 in
set_option maxHeartbeats 4000000 in
def E_X12_tellStay (n : Nat) (S : ST) : Option ST :=
  (E_X12_next n S (4 : Int32)).bind fun v1 => (E_X12_known n v1.2 (1 : Int32)).bind fun v2 => (E_X12_known n v2.2 (0 : Int32)).bind fun v3 => (E_X12_bounded n v3.2 (0 : Int32) (23 : Int32)).bind fun v4 => jn (fun (u5 : Int32) => (E_X12_bounded n v4.2 u5 (23 : Int32)).bind fun v6 => (E_X12_comes n v6.2 (4 : Int32)).bind fun S8 => if (S8.1 95 13) ≤ 0 then (wr S8 113 40 (((20 : Int32) * (S8.1 95 19)) + v1.1) v2.1).bind fun S10 => (wr S10 114 40 (((20 : Int32) * (S10.1 95 19)) + v1.1) v3.1).bind fun S11 => (wr S11 115 40 (((20 : Int32) * (S11.1 95 19)) + v1.1) v4.1).bind fun S12 => (wr S12 116 40 (((20 : Int32) * (S12.1 95 19)) + v1.1) v6.1).bind fun S13 => some S13 else some S8) fun j14 => if v4.1 ≤ (23 : Int32) then j14 v4.1 else j14 (0 : Int32)
set_option maxRecDepth 100000 in
set_option maxHeartbeats 4000000 in
theorem E_X12_tellStay_ok {n : Nat} (hn : 30000 ≤ n) {K : AK} {R : Nat → Nat → Option Nat} {S : ST} {tz en : Nat} (hL : Lay K R tz en) {o : ST} (h : E_X12_tellStay n S  = some o) : F_X12_tellStay n (mkM K R S) 95 = some (mkM K R o) := by
  unfold E_X12_tellStay at h
  unfold F_X12_tellStay
  refine eCwiV (kd_95 hL) (Nat.le_of_ble_eq_true rfl) (fun _ hv => E_X12_next_ok hn hL hv) h (fun v1 h => ?_)
  refine eCwiV (kd_95 hL) (Nat.le_of_ble_eq_true rfl) (fun _ hv => E_X12_known_ok hn hL hv) h (fun v2 h => ?_)
  refine eCwiV (kd_95 hL) (Nat.le_of_ble_eq_true rfl) (fun _ hv => E_X12_known_ok hn hL hv) h (fun v3 h => ?_)
  refine eCwiV (kd_95 hL) (Nat.le_of_ble_eq_true rfl) (fun _ hv => E_X12_bounded_ok hn hL hv) h (fun v4 h => ?_)
  refine eJN (fun j14 fj14 => ∀ (u5 : Int32), j14 u5 = some o → fj14 u5 = some (mkM K R o)) h ?_ ?_
  · intro u5 h
    refine eCwiV (kd_95 hL) (Nat.le_of_ble_eq_true rfl) (fun _ hv => E_X12_bounded_ok hn hL hv) h (fun v6 h => ?_)
    refine eCwV (kd_95 hL) (Nat.le_of_ble_eq_true rfl) (fun _ hv => E_X12_comes_ok hn hL hv) h (fun S8 h => ?_)
    refine eGI (kd_95 hL) (Nat.le_of_ble_eq_true rfl) ?_
    refine eIF h (fun c9 h => ?_) (fun c9 h => ?_)
    · refine eGR (kd_95 hL) (Nat.le_of_ble_eq_true rfl) (rd_95_31 hL) ?_
      refine eGI (kd_95 hL) (Nat.le_of_ble_eq_true rfl) ?_
      refine eWI (kd_113 hL) (Nat.le_of_ble_eq_true rfl) h (fun S10 h => ?_)
      refine eGR (kd_95 hL) (Nat.le_of_ble_eq_true rfl) (rd_95_32 hL) ?_
      refine eGI (kd_95 hL) (Nat.le_of_ble_eq_true rfl) ?_
      refine eWI (kd_114 hL) (Nat.le_of_ble_eq_true rfl) h (fun S11 h => ?_)
      refine eGR (kd_95 hL) (Nat.le_of_ble_eq_true rfl) (rd_95_33 hL) ?_
      refine eGI (kd_95 hL) (Nat.le_of_ble_eq_true rfl) ?_
      refine eWI (kd_115 hL) (Nat.le_of_ble_eq_true rfl) h (fun S12 h => ?_)
      refine eGR (kd_95 hL) (Nat.le_of_ble_eq_true rfl) (rd_95_34 hL) ?_
      refine eGI (kd_95 hL) (Nat.le_of_ble_eq_true rfl) ?_
      refine eWI (kd_116 hL) (Nat.le_of_ble_eq_true rfl) h (fun S13 h => ?_)
      exact eLeaf (θ := (fun (o : ST) => (mkM K R o))) h rfl
    · exact eLeaf (θ := (fun (o : ST) => (mkM K R o))) h rfl
  · intro j14 fj14 Jj14 h
    refine eIF h (fun c15 h => ?_) (fun c15 h => ?_)
    · exact Jj14 _ h
    · exact Jj14 _ h
-- OnlyUpwardModel.tellTask()V
set_option maxRecDepth 100000 in
set_option maxHeartbeats 4000000 in
def E_X12_tellTask (n : Nat) (S : ST) : Option ST :=
  (E_X12_goesOn n S ).bind fun S2 => (E_X12_named n S2 ).bind fun v3 => jn (fun (u4 : Int32) => (iter (fun (s5 : Int32 × Int32 × ST) => if s5.2.1 = 0 then some (.inr (.inl (s5.1, s5.2.2))) else (E_X12_known n s5.2.2 (2 : Int32)).bind fun v7 => if (v7.2.1 95 13) ≤ 0 then jn (fun (S9 : ST) => jn (fun (u10 : Int32) => (E_X12_is n S9 (5 : Int32)).bind fun v11 => jn (fun (S12 : ST) => jn (fun (u13 : Int32) => some (.inl (u10, u13, S12))) fun j14 => jn (j14 (0 : Int32)) fun j15 => if v11 = 0 then j15 else if (S12.1 95 13) = 0 then j14 (1 : Int32) else j15) fun j18 => if v11 = 0 then j18 S9 else (E_X12_goesOn n S9 ).bind fun S21 => j18 S21) fun j22 => if v7.1 = (-1 : Int32) then j22 s5.1 else j22 (s5.1 ||| ((1 : Int32) <<< (v7.1 &&& 31)))) fun j24 => if v7.1 = (-1 : Int32) then j24 v7.2 else if ((s5.1 >>> (v7.1 &&& 31)) &&& (1 : Int32)) = (1 : Int32) then (E_X12_wrong n v7.2 (3 : Int32) (s5.2.2.1 95 11)).bind fun S28 => j24 S28 else j24 v7.2 else some (.inr (.inr v7.2))) n ((0 : Int32), u4, v3.2)).bind fun (z5 : (Int32 × ST) ⊕ ST) => Sum.elim (fun (e5 : Int32 × ST) => (E_X12_must n e5.2 (4 : Int32)).bind fun S30 => if (S30.1 95 13) ≤ 0 then (rd (S30.1 107) 2 (S30.1 95 19)).bind fun v32 => (E_X12_notes n S30 v3.1 (3 : Int32) v32).bind fun S34 => (rd (S34.1 107) 2 (S34.1 95 19)).bind fun v35 => (wr S34 124 8 (((4 : Int32) * (S34.1 95 19)) + v35) e5.1).bind fun S36 => (rd (S36.1 107) 2 (S36.1 95 19)).bind fun v37 => (wr S36 107 2 (S36.1 95 19) (v37 + (1 : Int32))).bind fun S38 => some S38 else some S30) (fun (v : ST) => some v) z5) fun j39 => if (v3.2.1 95 13) = 0 then j39 (1 : Int32) else j39 (0 : Int32)
set_option maxRecDepth 100000 in
set_option maxHeartbeats 4000000 in
theorem E_X12_tellTask_ok {n : Nat} (hn : 30000 ≤ n) {K : AK} {R : Nat → Nat → Option Nat} {S : ST} {tz en : Nat} (hL : Lay K R tz en) {o : ST} (h : E_X12_tellTask n S  = some o) : F_X12_tellTask n (mkM K R S) 95 = some (mkM K R o) := by
  unfold E_X12_tellTask at h
  unfold F_X12_tellTask
  refine eCwV (kd_95 hL) (Nat.le_of_ble_eq_true rfl) (fun _ hv => E_X12_goesOn_ok hn hL hv) h (fun S2 h => ?_)
  refine eCwiV (kd_95 hL) (Nat.le_of_ble_eq_true rfl) (fun _ hv => E_X12_named_ok hn hL hv) h (fun v3 h => ?_)
  refine eGI (kd_95 hL) (Nat.le_of_ble_eq_true rfl) ?_
  refine eJN (fun j39 fj39 => ∀ (u4 : Int32), j39 u4 = some o → fj39 u4 = some (mkM K R o)) h ?_ ?_
  · intro u4 h
    refine eLP (fun (s5 : Int32 × Int32 × ST) => (s5.1, s5.2.1, mkM K R s5.2.2)) (Sum.map (fun (e5 : Int32 × ST) => (e5.1, mkM K R e5.2)) (fun (v : ST) => (mkM K R v))) h rfl ?_ ?_
    · intro s5 x5 h
      refine eIF h (fun c6 h => ?_) (fun c6 h => ?_)
      · exact eLeaf (θ := (Sum.map (fun (s5 : Int32 × Int32 × ST) => (s5.1, s5.2.1, mkM K R s5.2.2)) (Sum.map (fun (e5 : Int32 × ST) => (e5.1, mkM K R e5.2)) (fun (v : ST) => (mkM K R v))))) h rfl
      · refine eGI (kd_95 hL) (Nat.le_of_ble_eq_true rfl) ?_
        refine eCwiV (kd_95 hL) (Nat.le_of_ble_eq_true rfl) (fun _ hv => E_X12_known_ok hn hL hv) h (fun v7 h => ?_)
        refine eGI (kd_95 hL) (Nat.le_of_ble_eq_true rfl) ?_
        refine eIF h (fun c8 h => ?_) (fun c8 h => ?_)
        · refine eJN (fun j24 fj24 => ∀ (S9 : ST), j24 S9 = some x5 → fj24 (mkM K R S9) = some (Sum.map (fun (s5 : Int32 × Int32 × ST) => (s5.1, s5.2.1, mkM K R s5.2.2)) (Sum.map (fun (e5 : Int32 × ST) => (e5.1, mkM K R e5.2)) (fun (v : ST) => (mkM K R v))) x5)) h ?_ ?_
          · intro S9 h
            refine eJN (fun j22 fj22 => ∀ (u10 : Int32), j22 u10 = some x5 → fj22 u10 = some (Sum.map (fun (s5 : Int32 × Int32 × ST) => (s5.1, s5.2.1, mkM K R s5.2.2)) (Sum.map (fun (e5 : Int32 × ST) => (e5.1, mkM K R e5.2)) (fun (v : ST) => (mkM K R v))) x5)) h ?_ ?_
            · intro u10 h
              refine eCV (kd_95 hL) (Nat.le_of_ble_eq_true rfl) (fun _ hv => E_X12_is_ok hn hL hv) h (fun v11 h => ?_)
              refine eJN (fun j18 fj18 => ∀ (S12 : ST), j18 S12 = some x5 → fj18 (mkM K R S12) = some (Sum.map (fun (s5 : Int32 × Int32 × ST) => (s5.1, s5.2.1, mkM K R s5.2.2)) (Sum.map (fun (e5 : Int32 × ST) => (e5.1, mkM K R e5.2)) (fun (v : ST) => (mkM K R v))) x5)) h ?_ ?_
              · intro S12 h
                refine eJN (fun j14 fj14 => ∀ (u13 : Int32), j14 u13 = some x5 → fj14 u13 = some (Sum.map (fun (s5 : Int32 × Int32 × ST) => (s5.1, s5.2.1, mkM K R s5.2.2)) (Sum.map (fun (e5 : Int32 × ST) => (e5.1, mkM K R e5.2)) (fun (v : ST) => (mkM K R v))) x5)) h ?_ ?_
                · intro u13 h
                  exact eLeaf (θ := (Sum.map (fun (s5 : Int32 × Int32 × ST) => (s5.1, s5.2.1, mkM K R s5.2.2)) (Sum.map (fun (e5 : Int32 × ST) => (e5.1, mkM K R e5.2)) (fun (v : ST) => (mkM K R v))))) h rfl
                · intro j14 fj14 Jj14 h
                  refine eJN (fun j15 fj15 => j15 = some x5 → fj15 = some (Sum.map (fun (s5 : Int32 × Int32 × ST) => (s5.1, s5.2.1, mkM K R s5.2.2)) (Sum.map (fun (e5 : Int32 × ST) => (e5.1, mkM K R e5.2)) (fun (v : ST) => (mkM K R v))) x5)) h ?_ ?_
                  · intro h
                    exact Jj14 _ h
                  · intro j15 fj15 Jj15 h
                    refine eIF h (fun c16 h => ?_) (fun c16 h => ?_)
                    · exact Jj15 h
                    · refine eGI (kd_95 hL) (Nat.le_of_ble_eq_true rfl) ?_
                      refine eIF h (fun c17 h => ?_) (fun c17 h => ?_)
                      · exact Jj14 _ h
                      · exact Jj15 h
              · intro j18 fj18 Jj18 h
                refine eIF h (fun c19 h => ?_) (fun c19 h => ?_)
                · exact Jj18 _ h
                · refine eCwV (kd_95 hL) (Nat.le_of_ble_eq_true rfl) (fun _ hv => E_X12_goesOn_ok hn hL hv) h (fun S21 h => ?_)
                  exact Jj18 _ h
            · intro j22 fj22 Jj22 h
              refine eIF h (fun c23 h => ?_) (fun c23 h => ?_)
              · exact Jj22 _ h
              · exact Jj22 _ h
          · intro j24 fj24 Jj24 h
            refine eIF h (fun c25 h => ?_) (fun c25 h => ?_)
            · exact Jj24 _ h
            · refine eIF h (fun c26 h => ?_) (fun c26 h => ?_)
              · refine eCwV (kd_95 hL) (Nat.le_of_ble_eq_true rfl) (fun _ hv => E_X12_wrong_ok hn hL hv) h (fun S28 h => ?_)
                exact Jj24 _ h
              · exact Jj24 _ h
        · exact eLeaf (θ := (Sum.map (fun (s5 : Int32 × Int32 × ST) => (s5.1, s5.2.1, mkM K R s5.2.2)) (Sum.map (fun (e5 : Int32 × ST) => (e5.1, mkM K R e5.2)) (fun (v : ST) => (mkM K R v))))) h rfl
    · intro z5 h
      rcases z5 with e5 | v
      · have h := sum_inl h
        refine eCwV (kd_95 hL) (Nat.le_of_ble_eq_true rfl) (fun _ hv => E_X12_must_ok hn hL hv) h (fun S30 h => ?_)
        refine eGI (kd_95 hL) (Nat.le_of_ble_eq_true rfl) ?_
        refine eIF h (fun c31 h => ?_) (fun c31 h => ?_)
        · refine eGR (kd_95 hL) (Nat.le_of_ble_eq_true rfl) (rd_95_25 hL) ?_
          refine eGI (kd_95 hL) (Nat.le_of_ble_eq_true rfl) ?_
          refine eRI (kd_107 hL) h (fun v32 h => ?_)
          refine eCwV (kd_95 hL) (Nat.le_of_ble_eq_true rfl) (fun _ hv => E_X12_notes_ok hn hL hv) h (fun S34 h => ?_)
          refine eGR (kd_95 hL) (Nat.le_of_ble_eq_true rfl) (rd_95_42 hL) ?_
          refine eGI (kd_95 hL) (Nat.le_of_ble_eq_true rfl) ?_
          refine eGR (kd_95 hL) (Nat.le_of_ble_eq_true rfl) (rd_95_25 hL) ?_
          refine eGI (kd_95 hL) (Nat.le_of_ble_eq_true rfl) ?_
          refine eRI (kd_107 hL) h (fun v35 h => ?_)
          refine eWI (kd_124 hL) (Nat.le_of_ble_eq_true rfl) h (fun S36 h => ?_)
          refine eGR (kd_95 hL) (Nat.le_of_ble_eq_true rfl) (rd_95_25 hL) ?_
          refine eGI (kd_95 hL) (Nat.le_of_ble_eq_true rfl) ?_
          refine eRI (kd_107 hL) h (fun v37 h => ?_)
          refine eWI (kd_107 hL) (Nat.le_of_ble_eq_true rfl) h (fun S38 h => ?_)
          exact eLeaf (θ := (fun (o : ST) => (mkM K R o))) h rfl
        · exact eLeaf (θ := (fun (o : ST) => (mkM K R o))) h rfl
      · have h := sum_inr h
        exact eLeaf (θ := (fun (o : ST) => (mkM K R o))) h rfl
  · intro j39 fj39 Jj39 h
    refine eIF h (fun c40 h => ?_) (fun c40 h => ?_)
    · exact Jj39 _ h
    · exact Jj39 _ h
-- OnlyUpwardModel.emit(II)V
set_option maxRecDepth 100000 in
set_option maxHeartbeats 4000000 in
def E_X12_emit (n : Nat) (S : ST) (a1 : Int32) (a2 : Int32) : Option ST :=
  (wr S 134 840 (S.1 95 53) a1).bind fun S1 => (wr S1 135 840 (S1.1 95 53) a2).bind fun S2 => lets (upI S2 95 53 ((S2.1 95 53) + (1 : Int32))) fun (S3 : ST) => some S3
set_option maxRecDepth 100000 in
set_option maxHeartbeats 4000000 in
theorem E_X12_emit_ok {n : Nat} (hn : 30000 ≤ n) {K : AK} {R : Nat → Nat → Option Nat} {S : ST} {a1 : Int32} {a2 : Int32} {tz en : Nat} (hL : Lay K R tz en) {o : ST} (h : E_X12_emit n S a1 a2 = some o) : F_X12_emit n (mkM K R S) 95 a1 a2 = some (mkM K R o) := by
  unfold E_X12_emit at h
  unfold F_X12_emit
  refine eGR (kd_95 hL) (Nat.le_of_ble_eq_true rfl) (rd_95_54 hL) ?_
  refine eGI (kd_95 hL) (Nat.le_of_ble_eq_true rfl) ?_
  refine eWI (kd_134 hL) (Nat.le_of_ble_eq_true rfl) h (fun S1 h => ?_)
  refine eGR (kd_95 hL) (Nat.le_of_ble_eq_true rfl) (rd_95_55 hL) ?_
  refine eGI (kd_95 hL) (Nat.le_of_ble_eq_true rfl) ?_
  refine eWI (kd_135 hL) (Nat.le_of_ble_eq_true rfl) h (fun S2 h => ?_)
  refine eGI (kd_95 hL) (Nat.le_of_ble_eq_true rfl) ?_
  refine ePI (kd_95 hL) (Nat.le_of_ble_eq_true rfl) h (fun S3 h => ?_)
  exact eLeaf (θ := (fun (o : ST) => (mkM K R o))) h rfl
-- OnlyUpwardModel.unit()V
set_option maxRecDepth 100000 in
set_option maxHeartbeats 4000000 in
def E_X12_unit (n : Nat) (S : ST) : Option ST :=
  (E_X12_is n S (2 : Int32)).bind fun v1 => if v1 = 0 then jn ((E_X12_fail n S (1 : Int32)).bind fun S4 => some S4) fun j5 => if (S.1 95 13) = 0 then (rd (S.1 98) 403 (S.1 95 11)).bind fun v7 => if v7 < (36 : Int32) then j5 else (rd (S.1 98) 403 (S.1 95 11)).bind fun v9 => if (39 : Int32) < v9 then j5 else (rd (S.1 98) 403 (S.1 95 11)).bind fun v11 => (E_X12_emit n S (1 : Int32) (v11 - (36 : Int32))).bind fun S13 => (E_X12_goesOn n S13 ).bind fun S15 => some S15 else j5 else (rd (S.1 100) 403 (S.1 95 11)).bind fun v16 => (E_X12_emit n S (0 : Int32) v16).bind fun S18 => (E_X12_goesOn n S18 ).bind fun S20 => some S20
set_option maxRecDepth 100000 in
set_option maxHeartbeats 4000000 in
theorem E_X12_unit_ok {n : Nat} (hn : 30000 ≤ n) {K : AK} {R : Nat → Nat → Option Nat} {S : ST} {tz en : Nat} (hL : Lay K R tz en) {o : ST} (h : E_X12_unit n S  = some o) : F_X12_unit n (mkM K R S) 95 = some (mkM K R o) := by
  unfold E_X12_unit at h
  unfold F_X12_unit
  refine eCV (kd_95 hL) (Nat.le_of_ble_eq_true rfl) (fun _ hv => E_X12_is_ok hn hL hv) h (fun v1 h => ?_)
  refine eIF h (fun c2 h => ?_) (fun c2 h => ?_)
  · refine eGI (kd_95 hL) (Nat.le_of_ble_eq_true rfl) ?_
    refine eJN (fun j5 fj5 => j5 = some o → fj5 = some (mkM K R o)) h ?_ ?_
    · intro h
      refine eCwV (kd_95 hL) (Nat.le_of_ble_eq_true rfl) (fun _ hv => E_X12_fail_ok hn hL hv) h (fun S4 h => ?_)
      exact eLeaf (θ := (fun (o : ST) => (mkM K R o))) h rfl
    · intro j5 fj5 Jj5 h
      refine eIF h (fun c6 h => ?_) (fun c6 h => ?_)
      · refine eGR (kd_95 hL) (Nat.le_of_ble_eq_true rfl) (rd_95_5 hL) ?_
        refine eGI (kd_95 hL) (Nat.le_of_ble_eq_true rfl) ?_
        refine eRI (kd_98 hL) h (fun v7 h => ?_)
        refine eIF h (fun c8 h => ?_) (fun c8 h => ?_)
        · exact Jj5 h
        · refine eGR (kd_95 hL) (Nat.le_of_ble_eq_true rfl) (rd_95_5 hL) ?_
          refine eGI (kd_95 hL) (Nat.le_of_ble_eq_true rfl) ?_
          refine eRI (kd_98 hL) h (fun v9 h => ?_)
          refine eIF h (fun c10 h => ?_) (fun c10 h => ?_)
          · exact Jj5 h
          · refine eGR (kd_95 hL) (Nat.le_of_ble_eq_true rfl) (rd_95_5 hL) ?_
            refine eGI (kd_95 hL) (Nat.le_of_ble_eq_true rfl) ?_
            refine eRI (kd_98 hL) h (fun v11 h => ?_)
            refine eCwV (kd_95 hL) (Nat.le_of_ble_eq_true rfl) (fun _ hv => E_X12_emit_ok hn hL hv) h (fun S13 h => ?_)
            refine eCwV (kd_95 hL) (Nat.le_of_ble_eq_true rfl) (fun _ hv => E_X12_goesOn_ok hn hL hv) h (fun S15 h => ?_)
            exact eLeaf (θ := (fun (o : ST) => (mkM K R o))) h rfl
      · exact Jj5 h
  · refine eGR (kd_95 hL) (Nat.le_of_ble_eq_true rfl) (rd_95_7 hL) ?_
    refine eGI (kd_95 hL) (Nat.le_of_ble_eq_true rfl) ?_
    refine eRI (kd_100 hL) h (fun v16 h => ?_)
    refine eCwV (kd_95 hL) (Nat.le_of_ble_eq_true rfl) (fun _ hv => E_X12_emit_ok hn hL hv) h (fun S18 h => ?_)
    refine eCwV (kd_95 hL) (Nat.le_of_ble_eq_true rfl) (fun _ hv => E_X12_goesOn_ok hn hL hv) h (fun S20 h => ?_)
    exact eLeaf (θ := (fun (o : ST) => (mkM K R o))) h rfl
-- OnlyUpwardModel.comesOut(Z)V
set_option maxRecDepth 100000 in
set_option maxHeartbeats 4000000 in
def E_X12_comesOut (n : Nat) (S : ST) (a1 : Int32) : Option ST :=
  (iter (fun (s1 : ST) => if (s1.1 95 57) ≤ 0 then some (.inr (.inl s1)) else (rd (s1.1 136) 64 ((s1.1 95 57) - (1 : Int32))).bind fun v3 => if v3 = (6 : Int32) then some (.inr (.inr s1)) else jn (lets (upI s1 95 57 ((s1.1 95 57) - (1 : Int32))) fun (S5 : ST) => jn (fun (u6 : Int32) => (E_X12_emit n S5 u6 (0 : Int32)).bind fun S8 => some (.inl S8)) fun j9 => if v3 = (8 : Int32) then j9 (2 : Int32) else if v3 = (9 : Int32) then j9 (3 : Int32) else if v3 = (10 : Int32) then j9 (4 : Int32) else j9 (5 : Int32)) fun j13 => if a1 = 0 then j13 else if v3 = (8 : Int32) then some (.inr (.inr s1)) else if v3 = (9 : Int32) then some (.inr (.inr s1)) else j13) n S).bind fun (z1 : (ST) ⊕ ST) => Sum.elim (fun (e1 : ST) => some e1) (fun (v : ST) => some v) z1
set_option maxRecDepth 100000 in
set_option maxHeartbeats 4000000 in
theorem E_X12_comesOut_ok {n : Nat} (hn : 30000 ≤ n) {K : AK} {R : Nat → Nat → Option Nat} {S : ST} {a1 : Int32} {tz en : Nat} (hL : Lay K R tz en) {o : ST} (h : E_X12_comesOut n S a1 = some o) : F_X12_comesOut n (mkM K R S) 95 a1 = some (mkM K R o) := by
  unfold E_X12_comesOut at h
  unfold F_X12_comesOut
  refine eLP (fun (s1 : ST) => mkM K R s1) (Sum.map (fun (e1 : ST) => mkM K R e1) (fun (v : ST) => (mkM K R v))) h rfl ?_ ?_
  · intro s1 x1 h
    refine eGI (kd_95 hL) (Nat.le_of_ble_eq_true rfl) ?_
    refine eIF h (fun c2 h => ?_) (fun c2 h => ?_)
    · exact eLeaf (θ := (Sum.map (fun (s1 : ST) => mkM K R s1) (Sum.map (fun (e1 : ST) => mkM K R e1) (fun (v : ST) => (mkM K R v))))) h rfl
    · refine eGR (kd_95 hL) (Nat.le_of_ble_eq_true rfl) (rd_95_56 hL) ?_
      refine eGI (kd_95 hL) (Nat.le_of_ble_eq_true rfl) ?_
      refine eRI (kd_136 hL) h (fun v3 h => ?_)
      refine eIF h (fun c4 h => ?_) (fun c4 h => ?_)
      · exact eLeaf (θ := (Sum.map (fun (s1 : ST) => mkM K R s1) (Sum.map (fun (e1 : ST) => mkM K R e1) (fun (v : ST) => (mkM K R v))))) h rfl
      · refine eJN (fun j13 fj13 => j13 = some x1 → fj13 = some (Sum.map (fun (s1 : ST) => mkM K R s1) (Sum.map (fun (e1 : ST) => mkM K R e1) (fun (v : ST) => (mkM K R v))) x1)) h ?_ ?_
        · intro h
          refine eGI (kd_95 hL) (Nat.le_of_ble_eq_true rfl) ?_
          refine ePI (kd_95 hL) (Nat.le_of_ble_eq_true rfl) h (fun S5 h => ?_)
          refine eJN (fun j9 fj9 => ∀ (u6 : Int32), j9 u6 = some x1 → fj9 u6 = some (Sum.map (fun (s1 : ST) => mkM K R s1) (Sum.map (fun (e1 : ST) => mkM K R e1) (fun (v : ST) => (mkM K R v))) x1)) h ?_ ?_
          · intro u6 h
            refine eCwV (kd_95 hL) (Nat.le_of_ble_eq_true rfl) (fun _ hv => E_X12_emit_ok hn hL hv) h (fun S8 h => ?_)
            exact eLeaf (θ := (Sum.map (fun (s1 : ST) => mkM K R s1) (Sum.map (fun (e1 : ST) => mkM K R e1) (fun (v : ST) => (mkM K R v))))) h rfl
          · intro j9 fj9 Jj9 h
            refine eIF h (fun c10 h => ?_) (fun c10 h => ?_)
            · exact Jj9 _ h
            · refine eIF h (fun c11 h => ?_) (fun c11 h => ?_)
              · exact Jj9 _ h
              · refine eIF h (fun c12 h => ?_) (fun c12 h => ?_)
                · exact Jj9 _ h
                · exact Jj9 _ h
        · intro j13 fj13 Jj13 h
          refine eIF h (fun c14 h => ?_) (fun c14 h => ?_)
          · exact Jj13 h
          · refine eIF h (fun c15 h => ?_) (fun c15 h => ?_)
            · exact eLeaf (θ := (Sum.map (fun (s1 : ST) => mkM K R s1) (Sum.map (fun (e1 : ST) => mkM K R e1) (fun (v : ST) => (mkM K R v))))) h rfl
            · refine eIF h (fun c16 h => ?_) (fun c16 h => ?_)
              · exact eLeaf (θ := (Sum.map (fun (s1 : ST) => mkM K R s1) (Sum.map (fun (e1 : ST) => mkM K R e1) (fun (v : ST) => (mkM K R v))))) h rfl
              · exact Jj13 h
  · intro z1 h
    rcases z1 with e1 | v
    · have h := sum_inl h
      exact eLeaf (θ := (fun (o : ST) => (mkM K R o))) h rfl
    · have h := sum_inr h
      exact eLeaf (θ := (fun (o : ST) => (mkM K R o))) h rfl
