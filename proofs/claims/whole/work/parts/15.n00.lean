-- OnlyUpward$Tokens.withLetter(JI)J
set_option maxRecDepth 100000 in
set_option maxHeartbeats 4000000 in
def E_X9_withLetter (n : Nat) (S : ST) (a0 : Int64) (a2 : Int32) : Option Int64 :=
  some ((a0 * (27 : Int64)) + (((a2 - (97 : Int32)) + (1 : Int32))).toInt64)
set_option maxRecDepth 100000 in
set_option maxHeartbeats 4000000 in
theorem E_X9_withLetter_ok {n : Nat} (hn : 30000 ≤ n) {K : AK} {R : Nat → Nat → Option Nat} {S : ST} {a0 : Int64} {a2 : Int32} {tz en : Nat} (hL : Lay K R tz en) {o : Int64} (h : E_X9_withLetter n S a0 a2 = some o) : F_X9_withLetter n (mkM K R S) a0 a2 = some o := by
  unfold E_X9_withLetter at h
  unfold F_X9_withLetter
  exact eLeaf (θ := (fun (o : Int64) => o)) h rfl
-- OnlyUpward$Laws.clear()V
set_option maxRecDepth 100000 in
set_option maxHeartbeats 4000000 in
def E_X4_clear (n : Nat) (S : ST) (l : Nat) : Option ST :=
  lets (upI S l 7 (0 : Int32)) fun (S1 : ST) => lets (fillS S1 (l + 5) 2 (0 : Int32)) fun (S2 : ST) => some S2
set_option maxRecDepth 100000 in
set_option maxHeartbeats 4000000 in
theorem E_X4_clear_ok {n : Nat} (hn : 30000 ≤ n) {K : AK} {R : Nat → Nat → Option Nat} {S : ST} {l : Nat} {tz en : Nat} (hL : Lay K R tz en) (hl : LL K R l) {o : ST} (h : E_X4_clear n S l = some o) : F_X4_clear n (mkM K R S) l = some (mkM K R o) := by
  unfold E_X4_clear at h
  unfold F_X4_clear
  refine ePI (kL_0 hl) (k8L 0 hl) h (fun S1 h => ?_)
  refine eGR (kL_0 hl) (k8L 0 hl) (rL_0_4 hl) ?_
  refine eFL (by omega) (kL_5 hl) (k8L 5 hl) h (fun S2 h => ?_)
  exact eLeaf (θ := (fun (o : ST) => (mkM K R o))) h rfl
-- OnlyUpward$World.clear()V
set_option maxRecDepth 100000 in
set_option maxHeartbeats 4000000 in
def E_X10_clear (n : Nat) (S : ST) (w : Nat) : Option ST :=
  lets (fillS S (w + 1) 11 (0 : Int32)) fun (S1 : ST) => lets (fillS S1 (w + 5) 6 (0 : Int32)) fun (S2 : ST) => lets (fillS S2 (w + 6) 10 (0 : Int32)) fun (S3 : ST) => lets (fillS S3 (w + 21) 240 (-2 : Int32)) fun (S4 : ST) => (E_X4_clear n S4 (w + 13)).bind fun S6 => some S6
set_option maxRecDepth 100000 in
set_option maxHeartbeats 4000000 in
theorem E_X10_clear_ok {n : Nat} (hn : 30000 ≤ n) {K : AK} {R : Nat → Nat → Option Nat} {S : ST} {w : Nat} {tz en : Nat} (hL : Lay K R tz en) (hw : LW K R w) {o : ST} (h : E_X10_clear n S w = some o) : F_X10_clear n (mkM K R S) w = some (mkM K R o) := by
  unfold E_X10_clear at h
  unfold F_X10_clear
  refine eGR (kW_0 hw) (k8W 0 hw) (rW_0_0 hw) ?_
  refine eFL (by omega) (kW_1 hw) (k8W 1 hw) h (fun S1 h => ?_)
  refine eGR (kW_0 hw) (k8W 0 hw) (rW_0_4 hw) ?_
  refine eFL (by omega) (kW_5 hw) (k8W 5 hw) h (fun S2 h => ?_)
  refine eGR (kW_0 hw) (k8W 0 hw) (rW_0_5 hw) ?_
  refine eFL (by omega) (kW_6 hw) (k8W 6 hw) h (fun S3 h => ?_)
  refine eGR (kW_0 hw) (k8W 0 hw) (rW_0_13 hw) ?_
  refine eFL (by omega) (kW_21 hw) (k8W 21 hw) h (fun S4 h => ?_)
  refine eGR (kW_0 hw) (k8W 0 hw) (rW_0_12 hw) ?_
  refine eCwV (kW_13 hw) (k8W 13 hw) (fun _ hv => E_X4_clear_ok hn hL (LW_LL hw) hv) h (fun S6 h => ?_)
  exact eLeaf (θ := (fun (o : ST) => (mkM K R o))) h rfl
-- OnlyUpward$Plan.clear()V
set_option maxRecDepth 100000 in
set_option maxHeartbeats 4000000 in
def E_X5_clear (n : Nat) (S : ST) : Option ST :=
  lets (upI S 72 1 (0 : Int32)) fun (S1 : ST) => lets (fillS S1 75 3 (-1 : Int32)) fun (S2 : ST) => some S2
set_option maxRecDepth 100000 in
set_option maxHeartbeats 4000000 in
theorem E_X5_clear_ok {n : Nat} (hn : 30000 ≤ n) {K : AK} {R : Nat → Nat → Option Nat} {S : ST} {tz en : Nat} (hL : Lay K R tz en) {o : ST} (h : E_X5_clear n S  = some o) : F_X5_clear n (mkM K R S) 72 = some (mkM K R o) := by
  unfold E_X5_clear at h
  unfold F_X5_clear
  refine ePI (kd_72 hL) (Nat.le_of_ble_eq_true rfl) h (fun S1 h => ?_)
  refine eGR (kd_72 hL) (Nat.le_of_ble_eq_true rfl) (rd_72_3 hL) ?_
  refine eFL (by omega) (kd_75 hL) (Nat.le_of_ble_eq_true rfl) h (fun S2 h => ?_)
  exact eLeaf (θ := (fun (o : ST) => (mkM K R o))) h rfl
-- OnlyUpward.putBytes(I)V
set_option maxRecDepth 100000 in
set_option maxHeartbeats 4000000 in
def E_X11_putBytes (n : Nat) (S : ST) (tw : Nat) (a1 : Int32) : Option ST :=
  (iter (fun (s1 : Int32 × ST) => if s1.1 < 0 then some (.inr s1.2) else if (2000 : Int32) ≤ (s1.2.1 8 1) then some (.inr s1.2) else (wr s1.2 9 2000 (s1.2.1 8 1) (((ush a1 s1.1)).toInt8.toInt32).toInt8.toInt32).bind fun S4 => lets (upI S4 8 1 ((S4.1 8 1) + (1 : Int32))) fun (S5 : ST) => some (.inl ((s1.1 + (-8 : Int32)), S5))) n ((24 : Int32), S)).bind fun (e1 : ST) => some e1
set_option maxRecDepth 100000 in
set_option maxHeartbeats 4000000 in
theorem E_X11_putBytes_ok {n : Nat} (hn : 30000 ≤ n) {K : AK} {R : Nat → Nat → Option Nat} {S : ST} {a1 : Int32} {tw en : Nat} (hL : Lay K R tw en) {o : ST} (h : E_X11_putBytes n S tw a1 = some o) : F_X11_putBytes n (mkM K R S) 8 a1 = some (mkM K R o) := by
  unfold E_X11_putBytes at h
  unfold F_X11_putBytes
  refine eLP (fun (s1 : Int32 × ST) => (s1.1, mkM K R s1.2)) (fun (e1 : ST) => mkM K R e1) h rfl ?_ ?_
  · intro s1 x1 h
    refine eIF h (fun c2 h => ?_) (fun c2 h => ?_)
    · exact eLeaf (θ := (Sum.map (fun (s1 : Int32 × ST) => (s1.1, mkM K R s1.2)) (fun (e1 : ST) => mkM K R e1))) h rfl
    · refine eGI (kd_8 hL) (Nat.le_of_ble_eq_true rfl) ?_
      refine eIF h (fun c3 h => ?_) (fun c3 h => ?_)
      · exact eLeaf (θ := (Sum.map (fun (s1 : Int32 × ST) => (s1.1, mkM K R s1.2)) (fun (e1 : ST) => mkM K R e1))) h rfl
      · refine eGR (kd_8 hL) (Nat.le_of_ble_eq_true rfl) (rd_8_0 hL) ?_
        refine eGI (kd_8 hL) (Nat.le_of_ble_eq_true rfl) ?_
        refine eWB (kd_9 hL) (Nat.le_of_ble_eq_true rfl) h (fun S4 h => ?_)
        refine eGI (kd_8 hL) (Nat.le_of_ble_eq_true rfl) ?_
        refine ePI (kd_8 hL) (Nat.le_of_ble_eq_true rfl) h (fun S5 h => ?_)
        exact eLeaf (θ := (Sum.map (fun (s1 : Int32 × ST) => (s1.1, mkM K R s1.2)) (fun (e1 : ST) => mkM K R e1))) h rfl
  · intro e1 h
    exact eLeaf (θ := (fun (o : ST) => (mkM K R o))) h rfl
-- OnlyUpward.feed(IIIII)I
set_option maxRecDepth 100000 in
set_option maxHeartbeats 4000000 in
def E_X11_feed (n : Nat) (S : ST) (tw : Nat) (a1 : Int32) (a2 : Int32) (a3 : Int32) (a4 : Int32) (a5 : Int32) : Option (Int32 × ST) :=
  if ((S.1 8 1) + (20 : Int32)) ≤ (2000 : Int32) then (E_X11_putBytes n S tw a1).bind fun S3 => (E_X11_putBytes n S3 tw a2).bind fun S5 => (E_X11_putBytes n S5 tw a3).bind fun S7 => (E_X11_putBytes n S7 tw a4).bind fun S9 => (E_X11_putBytes n S9 tw a5).bind fun S11 => some ((S11.1 8 1), S11) else some ((-1 : Int32), S)
set_option maxRecDepth 100000 in
set_option maxHeartbeats 4000000 in
theorem E_X11_feed_ok {n : Nat} (hn : 30000 ≤ n) {K : AK} {R : Nat → Nat → Option Nat} {S : ST} {a1 : Int32} {a2 : Int32} {a3 : Int32} {a4 : Int32} {a5 : Int32} {tw en : Nat} (hL : Lay K R tw en) {o : (Int32 × ST)} (h : E_X11_feed n S tw a1 a2 a3 a4 a5 = some o) : F_X11_feed n (mkM K R S) 8 a1 a2 a3 a4 a5 = some (o.1, mkM K R o.2) := by
  unfold E_X11_feed at h
  unfold F_X11_feed
  refine eGI (kd_8 hL) (Nat.le_of_ble_eq_true rfl) ?_
  refine eIF h (fun c1 h => ?_) (fun c1 h => ?_)
  · refine eCwV (kd_8 hL) (Nat.le_of_ble_eq_true rfl) (fun _ hv => E_X11_putBytes_ok hn hL hv) h (fun S3 h => ?_)
    refine eCwV (kd_8 hL) (Nat.le_of_ble_eq_true rfl) (fun _ hv => E_X11_putBytes_ok hn hL hv) h (fun S5 h => ?_)
    refine eCwV (kd_8 hL) (Nat.le_of_ble_eq_true rfl) (fun _ hv => E_X11_putBytes_ok hn hL hv) h (fun S7 h => ?_)
    refine eCwV (kd_8 hL) (Nat.le_of_ble_eq_true rfl) (fun _ hv => E_X11_putBytes_ok hn hL hv) h (fun S9 h => ?_)
    refine eCwV (kd_8 hL) (Nat.le_of_ble_eq_true rfl) (fun _ hv => E_X11_putBytes_ok hn hL hv) h (fun S11 h => ?_)
    refine eGI (kd_8 hL) (Nat.le_of_ble_eq_true rfl) ?_
    exact eLeaf (θ := (fun (o : (Int32 × ST)) => (o.1, mkM K R o.2))) h rfl
  · exact eLeaf (θ := (fun (o : (Int32 × ST)) => (o.1, mkM K R o.2))) h rfl
-- OnlyUpward.back(I)I
set_option maxRecDepth 100000 in
set_option maxHeartbeats 4000000 in
def E_X11_back (n : Nat) (S : ST) (tw : Nat) (a1 : Int32) : Option (Int32 × ST) :=
  if a1 < 0 then some ((-1 : Int32), S) else if a1 ≤ (S.1 8 1) then lets (upI S 8 1 ((S.1 8 1) - a1)) fun (S3 : ST) => some ((S3.1 8 1), S3) else some ((-1 : Int32), S)
set_option maxRecDepth 100000 in
set_option maxHeartbeats 4000000 in
theorem E_X11_back_ok {n : Nat} (hn : 30000 ≤ n) {K : AK} {R : Nat → Nat → Option Nat} {S : ST} {a1 : Int32} {tw en : Nat} (hL : Lay K R tw en) {o : (Int32 × ST)} (h : E_X11_back n S tw a1 = some o) : F_X11_back n (mkM K R S) 8 a1 = some (o.1, mkM K R o.2) := by
  unfold E_X11_back at h
  unfold F_X11_back
  refine eIF h (fun c1 h => ?_) (fun c1 h => ?_)
  · exact eLeaf (θ := (fun (o : (Int32 × ST)) => (o.1, mkM K R o.2))) h rfl
  · refine eGI (kd_8 hL) (Nat.le_of_ble_eq_true rfl) ?_
    refine eIF h (fun c2 h => ?_) (fun c2 h => ?_)
    · refine eGI (kd_8 hL) (Nat.le_of_ble_eq_true rfl) ?_
      refine ePI (kd_8 hL) (Nat.le_of_ble_eq_true rfl) h (fun S3 h => ?_)
      refine eGI (kd_8 hL) (Nat.le_of_ble_eq_true rfl) ?_
      exact eLeaf (θ := (fun (o : (Int32 × ST)) => (o.1, mkM K R o.2))) h rfl
    · exact eLeaf (θ := (fun (o : (Int32 × ST)) => (o.1, mkM K R o.2))) h rfl
-- OnlyUpward$Tokens.endOfRun([BIIII)I
set_option maxRecDepth 100000 in
set_option maxHeartbeats 4000000 in
def E_X9_endOfRun (n : Nat) (S : ST) (a1 : Int32) (a2 : Int32) (a3 : Int32) (a4 : Int32) : Option Int32 :=
  (iter (fun (s1 : Int32) => if a1 ≤ s1 then some (.inr s1) else (rd (S.1 9) 2000 s1).bind fun v3 => if v3 < a3 then some (.inr s1) else (rd (S.1 9) 2000 s1).bind fun v5 => if a4 < v5 then some (.inr s1) else some (.inl (s1 + (1 : Int32)))) n a2).bind fun (e1 : Int32) => some e1
set_option maxRecDepth 100000 in
set_option maxHeartbeats 4000000 in
theorem E_X9_endOfRun_ok {n : Nat} (hn : 30000 ≤ n) {K : AK} {R : Nat → Nat → Option Nat} {S : ST} {a1 : Int32} {a2 : Int32} {a3 : Int32} {a4 : Int32} {tz en : Nat} (hL : Lay K R tz en) {o : Int32} (h : E_X9_endOfRun n S a1 a2 a3 a4 = some o) : F_X9_endOfRun n (mkM K R S) 9 a1 a2 a3 a4 = some o := by
  unfold E_X9_endOfRun at h
  unfold F_X9_endOfRun
  refine eLP (fun (s1 : Int32) => s1) (fun (e1 : Int32) => e1) h rfl ?_ ?_
  · intro s1 x1 h
    refine eIF h (fun c2 h => ?_) (fun c2 h => ?_)
    · exact eLeaf (θ := (Sum.map (fun (s1 : Int32) => s1) (fun (e1 : Int32) => e1))) h rfl
    · refine eRB (kd_9 hL) h (fun v3 h => ?_)
      refine eIF h (fun c4 h => ?_) (fun c4 h => ?_)
      · exact eLeaf (θ := (Sum.map (fun (s1 : Int32) => s1) (fun (e1 : Int32) => e1))) h rfl
      · refine eRB (kd_9 hL) h (fun v5 h => ?_)
        refine eIF h (fun c6 h => ?_) (fun c6 h => ?_)
        · exact eLeaf (θ := (Sum.map (fun (s1 : Int32) => s1) (fun (e1 : Int32) => e1))) h rfl
        · exact eLeaf (θ := (Sum.map (fun (s1 : Int32) => s1) (fun (e1 : Int32) => e1))) h rfl
  · intro e1 h
    exact eLeaf (θ := (fun (o : Int32) => o)) h rfl
-- OnlyUpward$Tokens.put(IIJ)V
set_option maxRecDepth 100000 in
set_option maxHeartbeats 4000000 in
def E_X9_put (n : Nat) (S : ST) (a1 : Int32) (a2 : Int32) (a3 : Int64) : Option ST :=
  if (402 : Int32) ≤ (S.1 10 4) then some S else (wr S 11 402 (S.1 10 4) a1).bind fun S2 => (wr S2 12 402 (S2.1 10 4) a2).bind fun S3 => (wrl S3 13 402 (S3.1 10 4) a3).bind fun S4 => lets (upI S4 10 4 ((S4.1 10 4) + (1 : Int32))) fun (S5 : ST) => some S5
set_option maxRecDepth 100000 in
set_option maxHeartbeats 4000000 in
theorem E_X9_put_ok {n : Nat} (hn : 30000 ≤ n) {K : AK} {R : Nat → Nat → Option Nat} {S : ST} {a1 : Int32} {a2 : Int32} {a3 : Int64} {tz en : Nat} (hL : Lay K R tz en) {o : ST} (h : E_X9_put n S a1 a2 a3 = some o) : F_X9_put n (mkM K R S) 10 a1 a2 a3 = some (mkM K R o) := by
  unfold E_X9_put at h
  unfold F_X9_put
  refine eGI (kd_10 hL) (Nat.le_of_ble_eq_true rfl) ?_
  refine eGR (kd_10 hL) (Nat.le_of_ble_eq_true rfl) (rd_10_0 hL) ?_
  refine eAL (kd_11 hL) (by decide) ?_
  refine eIF h (fun c1 h => ?_) (fun c1 h => ?_)
  · exact eLeaf (θ := (fun (o : ST) => (mkM K R o))) h rfl
  · refine eGR (kd_10 hL) (Nat.le_of_ble_eq_true rfl) (rd_10_0 hL) ?_
    refine eGI (kd_10 hL) (Nat.le_of_ble_eq_true rfl) ?_
    refine eWI (kd_11 hL) (Nat.le_of_ble_eq_true rfl) h (fun S2 h => ?_)
    refine eGR (kd_10 hL) (Nat.le_of_ble_eq_true rfl) (rd_10_1 hL) ?_
    refine eGI (kd_10 hL) (Nat.le_of_ble_eq_true rfl) ?_
    refine eWI (kd_12 hL) (Nat.le_of_ble_eq_true rfl) h (fun S3 h => ?_)
    refine eGR (kd_10 hL) (Nat.le_of_ble_eq_true rfl) (rd_10_2 hL) ?_
    refine eGI (kd_10 hL) (Nat.le_of_ble_eq_true rfl) ?_
    refine eWL (kd_13 hL) (Nat.le_of_ble_eq_true rfl) h (fun S4 h => ?_)
    refine eGI (kd_10 hL) (Nat.le_of_ble_eq_true rfl) ?_
    refine ePI (kd_10 hL) (Nat.le_of_ble_eq_true rfl) h (fun S5 h => ?_)
    exact eLeaf (θ := (fun (o : ST) => (mkM K R o))) h rfl
-- OnlyUpward$Tokens.scanWord([BII)I
set_option maxRecDepth 100000 in
set_option maxHeartbeats 4000000 in
def E_X9_scanWord (n : Nat) (S : ST) (a2 : Int32) (a3 : Int32) : Option (Int32 × ST) :=
  (E_X9_endOfRun n S a2 a3 (97 : Int32) (122 : Int32)).bind fun v1 => if (v1 - a3) ≤ (8 : Int32) then (iter (fun (s3 : Int64 × Int32) => if v1 ≤ s3.2 then some (.inr s3.1) else (rd (S.1 9) 2000 s3.2).bind fun v5 => (E_X9_withLetter n S s3.1 v5).bind fun v6 => some (.inl (v6, (s3.2 + (1 : Int32))))) n ((0 : Int64), a3)).bind fun (e3 : Int64) => (iter (fun (s7 : Int32 × Int32) => if (20 : Int32) ≤ s7.2 then some (.inr s7.1) else (rd (S.2 14) 20 s7.2).bind fun v9 => jn (fun (u10 : Int32) => some (.inl (u10, (s7.2 + (1 : Int32))))) fun j11 => if (lg_cmp v9 e3) = 0 then j11 s7.2 else j11 s7.1) n ((20 : Int32), (0 : Int32))).bind fun (e7 : Int32) => (E_X9_put n S e7 a3 e3).bind fun S14 => some (v1, S14) else (E_X9_put n S (34 : Int32) a3 (0 : Int64)).bind fun S16 => some (v1, S16)
set_option maxRecDepth 100000 in
set_option maxHeartbeats 4000000 in
theorem E_X9_scanWord_ok {n : Nat} (hn : 30000 ≤ n) {K : AK} {R : Nat → Nat → Option Nat} {S : ST} {a2 : Int32} {a3 : Int32} {tz en : Nat} (hL : Lay K R tz en) {o : (Int32 × ST)} (h : E_X9_scanWord n S a2 a3 = some o) : F_X9_scanWord n (mkM K R S) 10 9 a2 a3 = some (o.1, mkM K R o.2) := by
  unfold E_X9_scanWord at h
  unfold F_X9_scanWord
  refine eCS (fun _ hv => E_X9_endOfRun_ok hn hL hv) h (fun v1 h => ?_)
  refine eIF h (fun c2 h => ?_) (fun c2 h => ?_)
  · refine eLP (fun (s3 : Int64 × Int32) => s3) (fun (e3 : Int64) => e3) h rfl ?_ ?_
    · intro s3 x3 h
      refine eIF h (fun c4 h => ?_) (fun c4 h => ?_)
      · exact eLeaf (θ := (Sum.map (fun (s3 : Int64 × Int32) => s3) (fun (e3 : Int64) => e3))) h rfl
      · refine eRB (kd_9 hL) h (fun v5 h => ?_)
        refine eCS (fun _ hv => E_X9_withLetter_ok hn hL hv) h (fun v6 h => ?_)
        exact eLeaf (θ := (Sum.map (fun (s3 : Int64 × Int32) => s3) (fun (e3 : Int64) => e3))) h rfl
    · intro e3 h
      refine eLP (fun (s7 : Int32 × Int32) => s7) (fun (e7 : Int32) => e7) h rfl ?_ ?_
      · intro s7 x7 h
        refine eIF h (fun c8 h => ?_) (fun c8 h => ?_)
        · exact eLeaf (θ := (Sum.map (fun (s7 : Int32 × Int32) => s7) (fun (e7 : Int32) => e7))) h rfl
        · refine eGR (kd_10 hL) (Nat.le_of_ble_eq_true rfl) (rd_10_3 hL) ?_
          refine eRL (kd_14 hL) (Nat.le_of_ble_eq_true rfl) h (fun v9 h => ?_)
          refine eJN (fun j11 fj11 => ∀ (u10 : Int32), j11 u10 = some x7 → fj11 u10 = some (Sum.map (fun (s7 : Int32 × Int32) => s7) (fun (e7 : Int32) => e7) x7)) h ?_ ?_
          · intro u10 h
            exact eLeaf (θ := (Sum.map (fun (s7 : Int32 × Int32) => s7) (fun (e7 : Int32) => e7))) h rfl
          · intro j11 fj11 Jj11 h
            refine eIF h (fun c12 h => ?_) (fun c12 h => ?_)
            · exact Jj11 _ h
            · exact Jj11 _ h
      · intro e7 h
        refine eCwV (kd_10 hL) (Nat.le_of_ble_eq_true rfl) (fun _ hv => E_X9_put_ok hn hL hv) h (fun S14 h => ?_)
        exact eLeaf (θ := (fun (o : (Int32 × ST)) => (o.1, mkM K R o.2))) h rfl
  · refine eCwV (kd_10 hL) (Nat.le_of_ble_eq_true rfl) (fun _ hv => E_X9_put_ok hn hL hv) h (fun S16 h => ?_)
    exact eLeaf (θ := (fun (o : (Int32 × ST)) => (o.1, mkM K R o.2))) h rfl
-- OnlyUpward$Tokens.scanInt([BII)I
set_option maxRecDepth 100000 in
set_option maxHeartbeats 4000000 in
def E_X9_scanInt (n : Nat) (S : ST) (a2 : Int32) (a3 : Int32) : Option (Int32 × ST) :=
  (E_X9_endOfRun n S a2 a3 (48 : Int32) (57 : Int32)).bind fun v1 => if (v1 - a3) ≤ (4 : Int32) then (iter (fun (s3 : Int32 × Int32) => if v1 ≤ s3.2 then some (.inr s3.1) else (rd (S.1 9) 2000 s3.2).bind fun v5 => lets ((s3.1 * (10 : Int32)) + (v5 - (48 : Int32))) fun (w6 : Int32) => some (.inl (w6, (s3.2 + (1 : Int32))))) n ((0 : Int32), a3)).bind fun (e3 : Int32) => (E_X9_put n S (21 : Int32) a3 (e3).toInt64).bind fun S8 => some (v1, S8) else (E_X9_put n S (34 : Int32) a3 (0 : Int64)).bind fun S10 => some (v1, S10)
set_option maxRecDepth 100000 in
set_option maxHeartbeats 4000000 in
theorem E_X9_scanInt_ok {n : Nat} (hn : 30000 ≤ n) {K : AK} {R : Nat → Nat → Option Nat} {S : ST} {a2 : Int32} {a3 : Int32} {tz en : Nat} (hL : Lay K R tz en) {o : (Int32 × ST)} (h : E_X9_scanInt n S a2 a3 = some o) : F_X9_scanInt n (mkM K R S) 10 9 a2 a3 = some (o.1, mkM K R o.2) := by
  unfold E_X9_scanInt at h
  unfold F_X9_scanInt
  refine eCS (fun _ hv => E_X9_endOfRun_ok hn hL hv) h (fun v1 h => ?_)
  refine eIF h (fun c2 h => ?_) (fun c2 h => ?_)
  · refine eLP (fun (s3 : Int32 × Int32) => s3) (fun (e3 : Int32) => e3) h rfl ?_ ?_
    · intro s3 x3 h
      refine eIF h (fun c4 h => ?_) (fun c4 h => ?_)
      · exact eLeaf (θ := (Sum.map (fun (s3 : Int32 × Int32) => s3) (fun (e3 : Int32) => e3))) h rfl
      · refine eRB (kd_9 hL) h (fun v5 h => ?_)
        refine eLT h (fun w6 h => ?_)
        exact eLeaf (θ := (Sum.map (fun (s3 : Int32 × Int32) => s3) (fun (e3 : Int32) => e3))) h rfl
    · intro e3 h
      refine eCwV (kd_10 hL) (Nat.le_of_ble_eq_true rfl) (fun _ hv => E_X9_put_ok hn hL hv) h (fun S8 h => ?_)
      exact eLeaf (θ := (fun (o : (Int32 × ST)) => (o.1, mkM K R o.2))) h rfl
  · refine eCwV (kd_10 hL) (Nat.le_of_ble_eq_true rfl) (fun _ hv => E_X9_put_ok hn hL hv) h (fun S10 h => ?_)
    exact eLeaf (θ := (fun (o : (Int32 × ST)) => (o.1, mkM K R o.2))) h rfl
-- OnlyUpward$Tokens.isBeforeEqual(I)Z
set_option maxRecDepth 100000 in
set_option maxHeartbeats 4000000 in
def E_X9_isBeforeEqual (n : Nat) (S : ST) (a0 : Int32) : Option Int32 :=
  jn (some (1 : Int32)) fun j1 => if a0 = (61 : Int32) then j1 else if a0 = (33 : Int32) then j1 else if a0 = (60 : Int32) then j1 else some (0 : Int32)
set_option maxRecDepth 100000 in
set_option maxHeartbeats 4000000 in
theorem E_X9_isBeforeEqual_ok {n : Nat} (hn : 30000 ≤ n) {K : AK} {R : Nat → Nat → Option Nat} {S : ST} {a0 : Int32} {tz en : Nat} (hL : Lay K R tz en) {o : Int32} (h : E_X9_isBeforeEqual n S a0 = some o) : F_X9_isBeforeEqual n (mkM K R S) a0 = some o := by
  unfold E_X9_isBeforeEqual at h
  unfold F_X9_isBeforeEqual
  refine eJN (fun j1 fj1 => j1 = some o → fj1 = some o) h ?_ ?_
  · intro h
    exact eLeaf (θ := (fun (o : Int32) => o)) h rfl
  · intro j1 fj1 Jj1 h
    refine eIF h (fun c2 h => ?_) (fun c2 h => ?_)
    · exact Jj1 h
    · refine eIF h (fun c3 h => ?_) (fun c3 h => ?_)
      · exact Jj1 h
      · refine eIF h (fun c4 h => ?_) (fun c4 h => ?_)
        · exact Jj1 h
        · exact eLeaf (θ := (fun (o : Int32) => o)) h rfl
-- OnlyUpward$Tokens.longSign(I)I
set_option maxRecDepth 100000 in
set_option maxHeartbeats 4000000 in
def E_X9_longSign (n : Nat) (S : ST) (a0 : Int32) : Option Int32 :=
  if a0 = (60 : Int32) then some (31 : Int32) else if a0 = (61 : Int32) then some (28 : Int32) else some (29 : Int32)
set_option maxRecDepth 100000 in
set_option maxHeartbeats 4000000 in
theorem E_X9_longSign_ok {n : Nat} (hn : 30000 ≤ n) {K : AK} {R : Nat → Nat → Option Nat} {S : ST} {a0 : Int32} {tz en : Nat} (hL : Lay K R tz en) {o : Int32} (h : E_X9_longSign n S a0 = some o) : F_X9_longSign n (mkM K R S) a0 = some o := by
  unfold E_X9_longSign at h
  unfold F_X9_longSign
  refine eIF h (fun c1 h => ?_) (fun c1 h => ?_)
  · exact eLeaf (θ := (fun (o : Int32) => o)) h rfl
  · refine eIF h (fun c2 h => ?_) (fun c2 h => ?_)
    · exact eLeaf (θ := (fun (o : Int32) => o)) h rfl
    · exact eLeaf (θ := (fun (o : Int32) => o)) h rfl
-- OnlyUpward$Tokens.shortSign(I)I
set_option maxRecDepth 100000 in
set_option maxHeartbeats 4000000 in
def E_X9_shortSign (n : Nat) (S : ST) (a0 : Int32) : Option Int32 :=
  if a0 = (40 : Int32) then some (32 : Int32) else if a0 = (41 : Int32) then some (33 : Int32) else if a0 = (42 : Int32) then some (26 : Int32) else if a0 = (43 : Int32) then some (24 : Int32) else if a0 = (44 : Int32) then some (23 : Int32) else if a0 = (45 : Int32) then some (25 : Int32) else if a0 = (46 : Int32) then some (34 : Int32) else if a0 = (47 : Int32) then some (27 : Int32) else if a0 = (48 : Int32) then some (34 : Int32) else if a0 = (49 : Int32) then some (34 : Int32) else if a0 = (50 : Int32) then some (34 : Int32) else if a0 = (51 : Int32) then some (34 : Int32) else if a0 = (52 : Int32) then some (34 : Int32) else if a0 = (53 : Int32) then some (34 : Int32) else if a0 = (54 : Int32) then some (34 : Int32) else if a0 = (55 : Int32) then some (34 : Int32) else if a0 = (56 : Int32) then some (34 : Int32) else if a0 = (57 : Int32) then some (34 : Int32) else if a0 = (58 : Int32) then some (34 : Int32) else if a0 = (59 : Int32) then some (22 : Int32) else if a0 = (60 : Int32) then some (30 : Int32) else some (34 : Int32)
set_option maxRecDepth 100000 in
set_option maxHeartbeats 4000000 in
theorem E_X9_shortSign_ok {n : Nat} (hn : 30000 ≤ n) {K : AK} {R : Nat → Nat → Option Nat} {S : ST} {a0 : Int32} {tz en : Nat} (hL : Lay K R tz en) {o : Int32} (h : E_X9_shortSign n S a0 = some o) : F_X9_shortSign n (mkM K R S) a0 = some o := by
  unfold E_X9_shortSign at h
  unfold F_X9_shortSign
  refine eIF h (fun c1 h => ?_) (fun c1 h => ?_)
  · exact eLeaf (θ := (fun (o : Int32) => o)) h rfl
  · refine eIF h (fun c2 h => ?_) (fun c2 h => ?_)
    · exact eLeaf (θ := (fun (o : Int32) => o)) h rfl
    · refine eIF h (fun c3 h => ?_) (fun c3 h => ?_)
      · exact eLeaf (θ := (fun (o : Int32) => o)) h rfl
      · refine eIF h (fun c4 h => ?_) (fun c4 h => ?_)
        · exact eLeaf (θ := (fun (o : Int32) => o)) h rfl
        · refine eIF h (fun c5 h => ?_) (fun c5 h => ?_)
          · exact eLeaf (θ := (fun (o : Int32) => o)) h rfl
          · refine eIF h (fun c6 h => ?_) (fun c6 h => ?_)
            · exact eLeaf (θ := (fun (o : Int32) => o)) h rfl
            · refine eIF h (fun c7 h => ?_) (fun c7 h => ?_)
              · exact eLeaf (θ := (fun (o : Int32) => o)) h rfl
              · refine eIF h (fun c8 h => ?_) (fun c8 h => ?_)
                · exact eLeaf (θ := (fun (o : Int32) => o)) h rfl
                · refine eIF h (fun c9 h => ?_) (fun c9 h => ?_)
                  · exact eLeaf (θ := (fun (o : Int32) => o)) h rfl
                  · refine eIF h (fun c10 h => ?_) (fun c10 h => ?_)
                    · exact eLeaf (θ := (fun (o : Int32) => o)) h rfl
                    · refine eIF h (fun c11 h => ?_) (fun c11 h => ?_)
                      · exact eLeaf (θ := (fun (o : Int32) => o)) h rfl
                      · refine eIF h (fun c12 h => ?_) (fun c12 h => ?_)
                        · exact eLeaf (θ := (fun (o : Int32) => o)) h rfl
                        · refine eIF h (fun c13 h => ?_) (fun c13 h => ?_)
                          · exact eLeaf (θ := (fun (o : Int32) => o)) h rfl
                          · refine eIF h (fun c14 h => ?_) (fun c14 h => ?_)
                            · exact eLeaf (θ := (fun (o : Int32) => o)) h rfl
                            · refine eIF h (fun c15 h => ?_) (fun c15 h => ?_)
                              · exact eLeaf (θ := (fun (o : Int32) => o)) h rfl
                              · refine eIF h (fun c16 h => ?_) (fun c16 h => ?_)
                                · exact eLeaf (θ := (fun (o : Int32) => o)) h rfl
                                · refine eIF h (fun c17 h => ?_) (fun c17 h => ?_)
                                  · exact eLeaf (θ := (fun (o : Int32) => o)) h rfl
                                  · refine eIF h (fun c18 h => ?_) (fun c18 h => ?_)
                                    · exact eLeaf (θ := (fun (o : Int32) => o)) h rfl
                                    · refine eIF h (fun c19 h => ?_) (fun c19 h => ?_)
                                      · exact eLeaf (θ := (fun (o : Int32) => o)) h rfl
                                      · refine eIF h (fun c20 h => ?_) (fun c20 h => ?_)
                                        · exact eLeaf (θ := (fun (o : Int32) => o)) h rfl
                                        · refine eIF h (fun c21 h => ?_) (fun c21 h => ?_)
                                          · exact eLeaf (θ := (fun (o : Int32) => o)) h rfl
                                          · exact eLeaf (θ := (fun (o : Int32) => o)) h rfl
-- OnlyUpward$Tokens.scanOne([BII)I
set_option maxRecDepth 100000 in
set_option maxHeartbeats 4000000 in
def E_X9_scanOne (n : Nat) (S : ST) (a2 : Int32) (a3 : Int32) : Option (Int32 × ST) :=
  (rd (S.1 9) 2000 a3).bind fun v1 => jn (jn (jn (fun (u2 : Int32) => jn (fun (u3 : Int32) => (E_X9_put n S u3 a3 (0 : Int64)).bind fun S5 => if u2 = 0 then some ((a3 + (1 : Int32)), S5) else some ((a3 + (2 : Int32)), S5)) fun j7 => if u2 = 0 then (E_X9_shortSign n S v1).bind fun v9 => j7 v9 else (E_X9_longSign n S v1).bind fun v10 => j7 v10) fun j11 => jn (j11 (0 : Int32)) fun j12 => if a2 ≤ (a3 + (1 : Int32)) then j12 else (rd (S.1 9) 2000 (a3 + (1 : Int32))).bind fun v14 => if v14 = (61 : Int32) then (E_X9_isBeforeEqual n S v1).bind fun v16 => if v16 = 0 then j12 else j11 (1 : Int32) else j12) fun j18 => if v1 < (48 : Int32) then j18 else if (57 : Int32) < v1 then j18 else (E_X9_scanInt n S a2 a3).bind fun v21 => some (v21.1, v21.2)) fun j22 => if v1 < (97 : Int32) then j22 else if (122 : Int32) < v1 then j22 else (E_X9_scanWord n S a2 a3).bind fun v25 => some (v25.1, v25.2)
set_option maxRecDepth 100000 in
set_option maxHeartbeats 4000000 in
theorem E_X9_scanOne_ok {n : Nat} (hn : 30000 ≤ n) {K : AK} {R : Nat → Nat → Option Nat} {S : ST} {a2 : Int32} {a3 : Int32} {tz en : Nat} (hL : Lay K R tz en) {o : (Int32 × ST)} (h : E_X9_scanOne n S a2 a3 = some o) : F_X9_scanOne n (mkM K R S) 10 9 a2 a3 = some (o.1, mkM K R o.2) := by
  unfold E_X9_scanOne at h
  unfold F_X9_scanOne
  refine eRB (kd_9 hL) h (fun v1 h => ?_)
  refine eJN (fun j22 fj22 => j22 = some o → fj22 = some (o.1, mkM K R o.2)) h ?_ ?_
  · intro h
    refine eJN (fun j18 fj18 => j18 = some o → fj18 = some (o.1, mkM K R o.2)) h ?_ ?_
    · intro h
      refine eJN (fun j11 fj11 => ∀ (u2 : Int32), j11 u2 = some o → fj11 u2 = some (o.1, mkM K R o.2)) h ?_ ?_
      · intro u2 h
        refine eJN (fun j7 fj7 => ∀ (u3 : Int32), j7 u3 = some o → fj7 u3 = some (o.1, mkM K R o.2)) h ?_ ?_
        · intro u3 h
          refine eCwV (kd_10 hL) (Nat.le_of_ble_eq_true rfl) (fun _ hv => E_X9_put_ok hn hL hv) h (fun S5 h => ?_)
          refine eIF h (fun c6 h => ?_) (fun c6 h => ?_)
          · exact eLeaf (θ := (fun (o : (Int32 × ST)) => (o.1, mkM K R o.2))) h rfl
          · exact eLeaf (θ := (fun (o : (Int32 × ST)) => (o.1, mkM K R o.2))) h rfl
        · intro j7 fj7 Jj7 h
          refine eIF h (fun c8 h => ?_) (fun c8 h => ?_)
          · refine eCS (fun _ hv => E_X9_shortSign_ok hn hL hv) h (fun v9 h => ?_)
            exact Jj7 _ h
          · refine eCS (fun _ hv => E_X9_longSign_ok hn hL hv) h (fun v10 h => ?_)
            exact Jj7 _ h
      · intro j11 fj11 Jj11 h
        refine eJN (fun j12 fj12 => j12 = some o → fj12 = some (o.1, mkM K R o.2)) h ?_ ?_
        · intro h
          exact Jj11 _ h
        · intro j12 fj12 Jj12 h
          refine eIF h (fun c13 h => ?_) (fun c13 h => ?_)
          · exact Jj12 h
          · refine eRB (kd_9 hL) h (fun v14 h => ?_)
            refine eIF h (fun c15 h => ?_) (fun c15 h => ?_)
            · refine eCS (fun _ hv => E_X9_isBeforeEqual_ok hn hL hv) h (fun v16 h => ?_)
              refine eIF h (fun c17 h => ?_) (fun c17 h => ?_)
              · exact Jj12 h
              · exact Jj11 _ h
            · exact Jj12 h
    · intro j18 fj18 Jj18 h
      refine eIF h (fun c19 h => ?_) (fun c19 h => ?_)
      · exact Jj18 h
      · refine eIF h (fun c20 h => ?_) (fun c20 h => ?_)
        · exact Jj18 h
        · refine eCwiV (kd_10 hL) (Nat.le_of_ble_eq_true rfl) (fun _ hv => E_X9_scanInt_ok hn hL hv) h (fun v21 h => ?_)
          exact eLeaf (θ := (fun (o : (Int32 × ST)) => (o.1, mkM K R o.2))) h rfl
  · intro j22 fj22 Jj22 h
    refine eIF h (fun c23 h => ?_) (fun c23 h => ?_)
    · exact Jj22 h
    · refine eIF h (fun c24 h => ?_) (fun c24 h => ?_)
      · exact Jj22 h
      · refine eCwiV (kd_10 hL) (Nat.le_of_ble_eq_true rfl) (fun _ hv => E_X9_scanWord_ok hn hL hv) h (fun v25 h => ?_)
        exact eLeaf (θ := (fun (o : (Int32 × ST)) => (o.1, mkM K R o.2))) h rfl
-- OnlyUpward$Tokens.scan([BI)V
set_option maxRecDepth 100000 in
set_option maxHeartbeats 4000000 in
def E_X9_scan (n : Nat) (S : ST) (a2 : Int32) : Option ST :=
  lets (upI S 10 4 (0 : Int32)) fun (S1 : ST) => (iter (fun (s2 : Int32 × ST) => if a2 ≤ s2.1 then some (.inr s2.2) else if (400 : Int32) < (s2.2.1 10 4) then some (.inr s2.2) else (rd (s2.2.1 9) 2000 s2.1).bind fun v5 => jn (fun (u6 : Int32) (S7 : ST) => some (.inl ((u6 + (1 : Int32)), S7))) fun j8 => if v5 = (32 : Int32) then j8 s2.1 s2.2 else if v5 = (9 : Int32) then j8 s2.1 s2.2 else if v5 = (10 : Int32) then j8 s2.1 s2.2 else if v5 = (13 : Int32) then j8 s2.1 s2.2 else (E_X9_scanOne n s2.2 a2 s2.1).bind fun v13 => j8 (mxI s2.1 (v13.1 - (1 : Int32))) v13.2) n ((0 : Int32), S1)).bind fun (e2 : ST) => (E_X9_put n e2 (35 : Int32) a2 (0 : Int64)).bind fun S15 => some S15
set_option maxRecDepth 100000 in
set_option maxHeartbeats 4000000 in
theorem E_X9_scan_ok {n : Nat} (hn : 30000 ≤ n) {K : AK} {R : Nat → Nat → Option Nat} {S : ST} {a2 : Int32} {tz en : Nat} (hL : Lay K R tz en) {o : ST} (h : E_X9_scan n S a2 = some o) : F_X9_scan n (mkM K R S) 10 9 a2 = some (mkM K R o) := by
  unfold E_X9_scan at h
  unfold F_X9_scan
  refine ePI (kd_10 hL) (Nat.le_of_ble_eq_true rfl) h (fun S1 h => ?_)
  refine eLP (fun (s2 : Int32 × ST) => (s2.1, mkM K R s2.2)) (fun (e2 : ST) => mkM K R e2) h rfl ?_ ?_
  · intro s2 x2 h
    refine eIF h (fun c3 h => ?_) (fun c3 h => ?_)
    · exact eLeaf (θ := (Sum.map (fun (s2 : Int32 × ST) => (s2.1, mkM K R s2.2)) (fun (e2 : ST) => mkM K R e2))) h rfl
    · refine eGI (kd_10 hL) (Nat.le_of_ble_eq_true rfl) ?_
      refine eIF h (fun c4 h => ?_) (fun c4 h => ?_)
      · exact eLeaf (θ := (Sum.map (fun (s2 : Int32 × ST) => (s2.1, mkM K R s2.2)) (fun (e2 : ST) => mkM K R e2))) h rfl
      · refine eRB (kd_9 hL) h (fun v5 h => ?_)
        refine eJN (fun j8 fj8 => ∀ (u6 : Int32) (S7 : ST), j8 u6 S7 = some x2 → fj8 u6 (mkM K R S7) = some (Sum.map (fun (s2 : Int32 × ST) => (s2.1, mkM K R s2.2)) (fun (e2 : ST) => mkM K R e2) x2)) h ?_ ?_
        · intro u6 S7 h
          exact eLeaf (θ := (Sum.map (fun (s2 : Int32 × ST) => (s2.1, mkM K R s2.2)) (fun (e2 : ST) => mkM K R e2))) h rfl
        · intro j8 fj8 Jj8 h
          refine eIF h (fun c9 h => ?_) (fun c9 h => ?_)
          · exact Jj8 _ _ h
          · refine eIF h (fun c10 h => ?_) (fun c10 h => ?_)
            · exact Jj8 _ _ h
            · refine eIF h (fun c11 h => ?_) (fun c11 h => ?_)
              · exact Jj8 _ _ h
              · refine eIF h (fun c12 h => ?_) (fun c12 h => ?_)
                · exact Jj8 _ _ h
                · refine eCwiV (kd_10 hL) (Nat.le_of_ble_eq_true rfl) (fun _ hv => E_X9_scanOne_ok hn hL hv) h (fun v13 h => ?_)
                  exact Jj8 _ _ h
  · intro e2 h
    refine eCwV (kd_10 hL) (Nat.le_of_ble_eq_true rfl) (fun _ hv => E_X9_put_ok hn hL hv) h (fun S15 h => ?_)
    exact eLeaf (θ := (fun (o : ST) => (mkM K R o))) h rfl
-- OnlyUpward$Tokens.kindAt(I)I
set_option maxRecDepth 100000 in
set_option maxHeartbeats 4000000 in
def E_X9_kindAt (n : Nat) (S : ST) (a1 : Int32) : Option Int32 :=
  if a1 < 0 then some (35 : Int32) else if (S.1 10 4) ≤ a1 then some (35 : Int32) else (rd (S.1 11) 402 a1).bind fun v3 => some v3
set_option maxRecDepth 100000 in
set_option maxHeartbeats 4000000 in
theorem E_X9_kindAt_ok {n : Nat} (hn : 30000 ≤ n) {K : AK} {R : Nat → Nat → Option Nat} {S : ST} {a1 : Int32} {tz en : Nat} (hL : Lay K R tz en) {o : Int32} (h : E_X9_kindAt n S a1 = some o) : F_X9_kindAt n (mkM K R S) 10 a1 = some o := by
  unfold E_X9_kindAt at h
  unfold F_X9_kindAt
  refine eIF h (fun c1 h => ?_) (fun c1 h => ?_)
  · exact eLeaf (θ := (fun (o : Int32) => o)) h rfl
  · refine eGI (kd_10 hL) (Nat.le_of_ble_eq_true rfl) ?_
    refine eIF h (fun c2 h => ?_) (fun c2 h => ?_)
    · exact eLeaf (θ := (fun (o : Int32) => o)) h rfl
    · refine eGR (kd_10 hL) (Nat.le_of_ble_eq_true rfl) (rd_10_0 hL) ?_
      refine eRI (kd_11 hL) h (fun v3 h => ?_)
      exact eLeaf (θ := (fun (o : Int32) => o)) h rfl
-- OnlyUpward$Grammar.take(I)V
set_option maxRecDepth 100000 in
set_option maxHeartbeats 4000000 in
def E_X2_take (n : Nat) (S : ST) (a1 : Int32) : Option ST :=
  if (S.1 15 5) = 0 then (E_X9_kindAt n S (S.1 15 4)).bind fun v2 => if v2 = a1 then if (S.1 15 4) < (400 : Int32) then lets (upI S 15 4 ((S.1 15 4) + (1 : Int32))) fun (S5 : ST) => some S5 else lets (upI S 15 5 (2 : Int32)) fun (S6 : ST) => some S6 else lets (upI S 15 5 (1 : Int32)) fun (S7 : ST) => some S7 else some S
set_option maxRecDepth 100000 in
set_option maxHeartbeats 4000000 in
theorem E_X2_take_ok {n : Nat} (hn : 30000 ≤ n) {K : AK} {R : Nat → Nat → Option Nat} {S : ST} {a1 : Int32} {tz en : Nat} (hL : Lay K R tz en) {o : ST} (h : E_X2_take n S a1 = some o) : F_X2_take n (mkM K R S) 15 a1 = some (mkM K R o) := by
  unfold E_X2_take at h
  unfold F_X2_take
  refine eGI (kd_15 hL) (Nat.le_of_ble_eq_true rfl) ?_
  refine eIF h (fun c1 h => ?_) (fun c1 h => ?_)
  · refine eGR (kd_15 hL) (Nat.le_of_ble_eq_true rfl) (rd_15_0 hL) ?_
    refine eGI (kd_15 hL) (Nat.le_of_ble_eq_true rfl) ?_
    refine eCV (kd_10 hL) (Nat.le_of_ble_eq_true rfl) (fun _ hv => E_X9_kindAt_ok hn hL hv) h (fun v2 h => ?_)
    refine eIF h (fun c3 h => ?_) (fun c3 h => ?_)
    · refine eGI (kd_15 hL) (Nat.le_of_ble_eq_true rfl) ?_
      refine eIF h (fun c4 h => ?_) (fun c4 h => ?_)
      · refine eGI (kd_15 hL) (Nat.le_of_ble_eq_true rfl) ?_
        refine ePI (kd_15 hL) (Nat.le_of_ble_eq_true rfl) h (fun S5 h => ?_)
        exact eLeaf (θ := (fun (o : ST) => (mkM K R o))) h rfl
      · refine ePI (kd_15 hL) (Nat.le_of_ble_eq_true rfl) h (fun S6 h => ?_)
        exact eLeaf (θ := (fun (o : ST) => (mkM K R o))) h rfl
    · refine ePI (kd_15 hL) (Nat.le_of_ble_eq_true rfl) h (fun S7 h => ?_)
      exact eLeaf (θ := (fun (o : ST) => (mkM K R o))) h rfl
  · exact eLeaf (θ := (fun (o : ST) => (mkM K R o))) h rfl
-- OnlyUpward$Grammar.takeFurtherNames()V
set_option maxRecDepth 100000 in
set_option maxHeartbeats 4000000 in
def E_X2_takeFurtherNames (n : Nat) (S : ST) : Option ST :=
  (iter (fun (s1 : Int32 × ST) => if (400 : Int32) ≤ s1.1 then some (.inr s1.2) else if (s1.2.1 15 5) = 0 then (E_X9_kindAt n s1.2 (s1.2.1 15 4)).bind fun v4 => if v4 = (23 : Int32) then (E_X2_take n s1.2 (23 : Int32)).bind fun S7 => (E_X2_take n S7 (20 : Int32)).bind fun S9 => some (.inl ((s1.1 + (1 : Int32)), S9)) else some (.inr s1.2) else some (.inr s1.2)) n ((0 : Int32), S)).bind fun (e1 : ST) => some e1
set_option maxRecDepth 100000 in
set_option maxHeartbeats 4000000 in
theorem E_X2_takeFurtherNames_ok {n : Nat} (hn : 30000 ≤ n) {K : AK} {R : Nat → Nat → Option Nat} {S : ST} {tz en : Nat} (hL : Lay K R tz en) {o : ST} (h : E_X2_takeFurtherNames n S  = some o) : F_X2_takeFurtherNames n (mkM K R S) 15 = some (mkM K R o) := by
  unfold E_X2_takeFurtherNames at h
  unfold F_X2_takeFurtherNames
  refine eLP (fun (s1 : Int32 × ST) => (s1.1, mkM K R s1.2)) (fun (e1 : ST) => mkM K R e1) h rfl ?_ ?_
  · intro s1 x1 h
    refine eIF h (fun c2 h => ?_) (fun c2 h => ?_)
    · exact eLeaf (θ := (Sum.map (fun (s1 : Int32 × ST) => (s1.1, mkM K R s1.2)) (fun (e1 : ST) => mkM K R e1))) h rfl
    · refine eGI (kd_15 hL) (Nat.le_of_ble_eq_true rfl) ?_
      refine eIF h (fun c3 h => ?_) (fun c3 h => ?_)
      · refine eGR (kd_15 hL) (Nat.le_of_ble_eq_true rfl) (rd_15_0 hL) ?_
        refine eGI (kd_15 hL) (Nat.le_of_ble_eq_true rfl) ?_
        refine eCV (kd_10 hL) (Nat.le_of_ble_eq_true rfl) (fun _ hv => E_X9_kindAt_ok hn hL hv) h (fun v4 h => ?_)
        refine eIF h (fun c5 h => ?_) (fun c5 h => ?_)
        · refine eCwV (kd_15 hL) (Nat.le_of_ble_eq_true rfl) (fun _ hv => E_X2_take_ok hn hL hv) h (fun S7 h => ?_)
          refine eCwV (kd_15 hL) (Nat.le_of_ble_eq_true rfl) (fun _ hv => E_X2_take_ok hn hL hv) h (fun S9 h => ?_)
          exact eLeaf (θ := (Sum.map (fun (s1 : Int32 × ST) => (s1.1, mkM K R s1.2)) (fun (e1 : ST) => mkM K R e1))) h rfl
        · exact eLeaf (θ := (Sum.map (fun (s1 : Int32 × ST) => (s1.1, mkM K R s1.2)) (fun (e1 : ST) => mkM K R e1))) h rfl
      · exact eLeaf (θ := (Sum.map (fun (s1 : Int32 × ST) => (s1.1, mkM K R s1.2)) (fun (e1 : ST) => mkM K R e1))) h rfl
  · intro e1 h
    exact eLeaf (θ := (fun (o : ST) => (mkM K R o))) h rfl
-- OnlyUpward$Laws.begin(Z)V
set_option maxRecDepth 100000 in
set_option maxHeartbeats 4000000 in
def E_X4_begin (n : Nat) (S : ST) (l : Nat) (a1 : Int32) : Option ST :=
  jn (fun (u1 : Int32) => (rd (S.1 (l + 5)) 2 u1).bind fun v2 => if (4 : Int32) ≤ v2 then some S else (rd (S.1 (l + 5)) 2 u1).bind fun v4 => lets (upI S l 8 ((u1 * (4 : Int32)) + v4)) fun (S5 : ST) => (rd (S5.1 (l + 5)) 2 u1).bind fun v6 => (wr S5 (l + 5) 2 u1 (v6 + (1 : Int32))).bind fun S7 => (wr S7 (l + 3) 8 (S7.1 l 8) (S7.1 l 7)).bind fun S8 => (wr S8 (l + 4) 8 (S8.1 l 8) (S8.1 l 7)).bind fun S9 => some S9) fun j10 => if a1 = 0 then j10 (0 : Int32) else j10 (1 : Int32)
set_option maxRecDepth 100000 in
set_option maxHeartbeats 4000000 in
theorem E_X4_begin_ok {n : Nat} (hn : 30000 ≤ n) {K : AK} {R : Nat → Nat → Option Nat} {S : ST} {l : Nat} {a1 : Int32} {tz en : Nat} (hL : Lay K R tz en) (hl : LL K R l) {o : ST} (h : E_X4_begin n S l a1 = some o) : F_X4_begin n (mkM K R S) l a1 = some (mkM K R o) := by
  unfold E_X4_begin at h
  unfold F_X4_begin
  refine eJN (fun j10 fj10 => ∀ (u1 : Int32), j10 u1 = some o → fj10 u1 = some (mkM K R o)) h ?_ ?_
  · intro u1 h
    refine eGR (kL_0 hl) (k8L 0 hl) (rL_0_4 hl) ?_
    refine eRI (kL_5 hl) h (fun v2 h => ?_)
    refine eIF h (fun c3 h => ?_) (fun c3 h => ?_)
    · exact eLeaf (θ := (fun (o : ST) => (mkM K R o))) h rfl
    · refine eGR (kL_0 hl) (k8L 0 hl) (rL_0_4 hl) ?_
      refine eRI (kL_5 hl) h (fun v4 h => ?_)
      refine ePI (kL_0 hl) (k8L 0 hl) h (fun S5 h => ?_)
      refine eGR (kL_0 hl) (k8L 0 hl) (rL_0_4 hl) ?_
      refine eRI (kL_5 hl) h (fun v6 h => ?_)
      refine eWI (kL_5 hl) (k8L 5 hl) h (fun S7 h => ?_)
      refine eGR (kL_0 hl) (k8L 0 hl) (rL_0_2 hl) ?_
      refine eGI (kL_0 hl) (k8L 0 hl) ?_
      refine eGI (kL_0 hl) (k8L 0 hl) ?_
      refine eWI (kL_3 hl) (k8L 3 hl) h (fun S8 h => ?_)
      refine eGR (kL_0 hl) (k8L 0 hl) (rL_0_3 hl) ?_
      refine eGI (kL_0 hl) (k8L 0 hl) ?_
      refine eGI (kL_0 hl) (k8L 0 hl) ?_
      refine eWI (kL_4 hl) (k8L 4 hl) h (fun S9 h => ?_)
      exact eLeaf (θ := (fun (o : ST) => (mkM K R o))) h rfl
  · intro j10 fj10 Jj10 h
    refine eIF h (fun c11 h => ?_) (fun c11 h => ?_)
    · exact Jj10 _ h
    · exact Jj10 _ h
-- OnlyUpward$Grammar.isComparison(I)Z
set_option maxRecDepth 100000 in
set_option maxHeartbeats 4000000 in
def E_X2_isComparison (n : Nat) (S : ST) (a0 : Int32) : Option Int32 :=
  if a0 < (28 : Int32) then some (0 : Int32) else if (31 : Int32) < a0 then some (0 : Int32) else some (1 : Int32)
set_option maxRecDepth 100000 in
set_option maxHeartbeats 4000000 in
theorem E_X2_isComparison_ok {n : Nat} (hn : 30000 ≤ n) {K : AK} {R : Nat → Nat → Option Nat} {S : ST} {a0 : Int32} {tz en : Nat} (hL : Lay K R tz en) {o : Int32} (h : E_X2_isComparison n S a0 = some o) : F_X2_isComparison n (mkM K R S) a0 = some o := by
  unfold E_X2_isComparison at h
  unfold F_X2_isComparison
  refine eIF h (fun c1 h => ?_) (fun c1 h => ?_)
  · exact eLeaf (θ := (fun (o : Int32) => o)) h rfl
  · refine eIF h (fun c2 h => ?_) (fun c2 h => ?_)
    · exact eLeaf (θ := (fun (o : Int32) => o)) h rfl
    · exact eLeaf (θ := (fun (o : Int32) => o)) h rfl
-- OnlyUpward$Grammar.tightness(I)I
set_option maxRecDepth 100000 in
set_option maxHeartbeats 4000000 in
def E_X2_tightness (n : Nat) (S : ST) (a0 : Int32) : Option Int32 :=
  jn ((E_X2_isComparison n S a0).bind fun v1 => if v1 = 0 then some (0 : Int32) else some (4 : Int32)) fun j3 => if a0 = (13 : Int32) then some (1 : Int32) else if a0 = (14 : Int32) then some (2 : Int32) else if a0 = (15 : Int32) then some (3 : Int32) else if a0 = (16 : Int32) then j3 else if a0 = (17 : Int32) then j3 else if a0 = (18 : Int32) then j3 else if a0 = (19 : Int32) then j3 else if a0 = (20 : Int32) then j3 else if a0 = (21 : Int32) then j3 else if a0 = (22 : Int32) then j3 else if a0 = (23 : Int32) then j3 else if a0 = (24 : Int32) then some (5 : Int32) else if a0 = (25 : Int32) then some (5 : Int32) else if a0 = (26 : Int32) then some (6 : Int32) else if a0 = (27 : Int32) then some (6 : Int32) else j3
set_option maxRecDepth 100000 in
set_option maxHeartbeats 4000000 in
theorem E_X2_tightness_ok {n : Nat} (hn : 30000 ≤ n) {K : AK} {R : Nat → Nat → Option Nat} {S : ST} {a0 : Int32} {tz en : Nat} (hL : Lay K R tz en) {o : Int32} (h : E_X2_tightness n S a0 = some o) : F_X2_tightness n (mkM K R S) a0 = some o := by
  unfold E_X2_tightness at h
  unfold F_X2_tightness
  refine eJN (fun j3 fj3 => j3 = some o → fj3 = some o) h ?_ ?_
  · intro h
    refine eCS (fun _ hv => E_X2_isComparison_ok hn hL hv) h (fun v1 h => ?_)
    refine eIF h (fun c2 h => ?_) (fun c2 h => ?_)
    · exact eLeaf (θ := (fun (o : Int32) => o)) h rfl
    · exact eLeaf (θ := (fun (o : Int32) => o)) h rfl
  · intro j3 fj3 Jj3 h
    refine eIF h (fun c4 h => ?_) (fun c4 h => ?_)
    · exact eLeaf (θ := (fun (o : Int32) => o)) h rfl
    · refine eIF h (fun c5 h => ?_) (fun c5 h => ?_)
      · exact eLeaf (θ := (fun (o : Int32) => o)) h rfl
      · refine eIF h (fun c6 h => ?_) (fun c6 h => ?_)
        · exact eLeaf (θ := (fun (o : Int32) => o)) h rfl
        · refine eIF h (fun c7 h => ?_) (fun c7 h => ?_)
          · exact Jj3 h
          · refine eIF h (fun c8 h => ?_) (fun c8 h => ?_)
            · exact Jj3 h
            · refine eIF h (fun c9 h => ?_) (fun c9 h => ?_)
              · exact Jj3 h
              · refine eIF h (fun c10 h => ?_) (fun c10 h => ?_)
                · exact Jj3 h
                · refine eIF h (fun c11 h => ?_) (fun c11 h => ?_)
                  · exact Jj3 h
                  · refine eIF h (fun c12 h => ?_) (fun c12 h => ?_)
                    · exact Jj3 h
                    · refine eIF h (fun c13 h => ?_) (fun c13 h => ?_)
                      · exact Jj3 h
                      · refine eIF h (fun c14 h => ?_) (fun c14 h => ?_)
                        · exact Jj3 h
                        · refine eIF h (fun c15 h => ?_) (fun c15 h => ?_)
                          · exact eLeaf (θ := (fun (o : Int32) => o)) h rfl
                          · refine eIF h (fun c16 h => ?_) (fun c16 h => ?_)
                            · exact eLeaf (θ := (fun (o : Int32) => o)) h rfl
                            · refine eIF h (fun c17 h => ?_) (fun c17 h => ?_)
                              · exact eLeaf (θ := (fun (o : Int32) => o)) h rfl
                              · refine eIF h (fun c18 h => ?_) (fun c18 h => ?_)
                                · exact eLeaf (θ := (fun (o : Int32) => o)) h rfl
                                · exact Jj3 h
-- OnlyUpward$Laws.put(II)V
set_option maxRecDepth 100000 in
set_option maxHeartbeats 4000000 in
def E_X4_put (n : Nat) (S : ST) (l : Nat) (a1 : Int32) (a2 : Int32) : Option ST :=
  if (400 : Int32) ≤ (S.1 l 7) then some S else (wr S (l + 1) 400 (S.1 l 7) a1).bind fun S2 => (wr S2 (l + 2) 400 (S2.1 l 7) a2).bind fun S3 => lets (upI S3 l 7 ((S3.1 l 7) + (1 : Int32))) fun (S4 : ST) => some S4
set_option maxRecDepth 100000 in
set_option maxHeartbeats 4000000 in
theorem E_X4_put_ok {n : Nat} (hn : 30000 ≤ n) {K : AK} {R : Nat → Nat → Option Nat} {S : ST} {l : Nat} {a1 : Int32} {a2 : Int32} {tz en : Nat} (hL : Lay K R tz en) (hl : LL K R l) {o : ST} (h : E_X4_put n S l a1 a2 = some o) : F_X4_put n (mkM K R S) l a1 a2 = some (mkM K R o) := by
  unfold E_X4_put at h
  unfold F_X4_put
  refine eGI (kL_0 hl) (k8L 0 hl) ?_
  refine eGR (kL_0 hl) (k8L 0 hl) (rL_0_0 hl) ?_
  refine eAL (kL_1 hl) (by decide) ?_
  refine eIF h (fun c1 h => ?_) (fun c1 h => ?_)
  · exact eLeaf (θ := (fun (o : ST) => (mkM K R o))) h rfl
  · refine eGR (kL_0 hl) (k8L 0 hl) (rL_0_0 hl) ?_
    refine eGI (kL_0 hl) (k8L 0 hl) ?_
    refine eWI (kL_1 hl) (k8L 1 hl) h (fun S2 h => ?_)
    refine eGR (kL_0 hl) (k8L 0 hl) (rL_0_1 hl) ?_
    refine eGI (kL_0 hl) (k8L 0 hl) ?_
    refine eWI (kL_2 hl) (k8L 2 hl) h (fun S3 h => ?_)
    refine eGI (kL_0 hl) (k8L 0 hl) ?_
    refine ePI (kL_0 hl) (k8L 0 hl) h (fun S4 h => ?_)
    exact eLeaf (θ := (fun (o : ST) => (mkM K R o))) h rfl
-- OnlyUpward$Grammar.release(ILOnlyUpward$Laws;)V
set_option maxRecDepth 100000 in
set_option maxHeartbeats 4000000 in
def E_X2_release (n : Nat) (S : ST) (l : Nat) (a1 : Int32) : Option ST :=
  (iter (fun (s1 : ST) => if (s1.1 15 3) ≤ 0 then some (.inr s1) else (rd (s1.1 17) 400 ((s1.1 15 3) - (1 : Int32))).bind fun v3 => (E_X2_tightness n s1 v3).bind fun v4 => if v4 < a1 then some (.inr s1) else lets (upI s1 15 3 ((s1.1 15 3) - (1 : Int32))) fun (S6 : ST) => (rd (S6.1 17) 400 (S6.1 15 3)).bind fun v7 => (E_X4_put n S6 l v7 (0 : Int32)).bind fun S9 => some (.inl S9)) n S).bind fun (e1 : ST) => some e1
set_option maxRecDepth 100000 in
set_option maxHeartbeats 4000000 in
theorem E_X2_release_ok {n : Nat} (hn : 30000 ≤ n) {K : AK} {R : Nat → Nat → Option Nat} {S : ST} {l : Nat} {a1 : Int32} {tz en : Nat} (hL : Lay K R tz en) (hl : LL K R l) {o : ST} (h : E_X2_release n S l a1 = some o) : F_X2_release n (mkM K R S) 15 a1 l = some (mkM K R o) := by
  unfold E_X2_release at h
  unfold F_X2_release
  refine eLP (fun (s1 : ST) => mkM K R s1) (fun (e1 : ST) => mkM K R e1) h rfl ?_ ?_
  · intro s1 x1 h
    refine eGI (kd_15 hL) (Nat.le_of_ble_eq_true rfl) ?_
    refine eIF h (fun c2 h => ?_) (fun c2 h => ?_)
    · exact eLeaf (θ := (Sum.map (fun (s1 : ST) => mkM K R s1) (fun (e1 : ST) => mkM K R e1))) h rfl
    · refine eGR (kd_15 hL) (Nat.le_of_ble_eq_true rfl) (rd_15_2 hL) ?_
      refine eGI (kd_15 hL) (Nat.le_of_ble_eq_true rfl) ?_
      refine eRI (kd_17 hL) h (fun v3 h => ?_)
      refine eCS (fun _ hv => E_X2_tightness_ok hn hL hv) h (fun v4 h => ?_)
      refine eIF h (fun c5 h => ?_) (fun c5 h => ?_)
      · exact eLeaf (θ := (Sum.map (fun (s1 : ST) => mkM K R s1) (fun (e1 : ST) => mkM K R e1))) h rfl
      · refine eGI (kd_15 hL) (Nat.le_of_ble_eq_true rfl) ?_
        refine ePI (kd_15 hL) (Nat.le_of_ble_eq_true rfl) h (fun S6 h => ?_)
        refine eGR (kd_15 hL) (Nat.le_of_ble_eq_true rfl) (rd_15_2 hL) ?_
        refine eGI (kd_15 hL) (Nat.le_of_ble_eq_true rfl) ?_
        refine eRI (kd_17 hL) h (fun v7 h => ?_)
        refine eCwV (kL_0 hl) (k8L 0 hl) (fun _ hv => E_X4_put_ok hn hL hl hv) h (fun S9 h => ?_)
        exact eLeaf (θ := (Sum.map (fun (s1 : ST) => mkM K R s1) (fun (e1 : ST) => mkM K R e1))) h rfl
  · intro e1 h
    exact eLeaf (θ := (fun (o : ST) => (mkM K R o))) h rfl
-- OnlyUpward$Grammar.isReckoning(I)Z
set_option maxRecDepth 100000 in
set_option maxHeartbeats 4000000 in
def E_X2_isReckoning (n : Nat) (S : ST) (a0 : Int32) : Option Int32 :=
  if a0 < (24 : Int32) then some (0 : Int32) else if (27 : Int32) < a0 then some (0 : Int32) else some (1 : Int32)
set_option maxRecDepth 100000 in
set_option maxHeartbeats 4000000 in
theorem E_X2_isReckoning_ok {n : Nat} (hn : 30000 ≤ n) {K : AK} {R : Nat → Nat → Option Nat} {S : ST} {a0 : Int32} {tz en : Nat} (hL : Lay K R tz en) {o : Int32} (h : E_X2_isReckoning n S a0 = some o) : F_X2_isReckoning n (mkM K R S) a0 = some o := by
  unfold E_X2_isReckoning at h
  unfold F_X2_isReckoning
  refine eIF h (fun c1 h => ?_) (fun c1 h => ?_)
  · exact eLeaf (θ := (fun (o : Int32) => o)) h rfl
  · refine eIF h (fun c2 h => ?_) (fun c2 h => ?_)
    · exact eLeaf (θ := (fun (o : Int32) => o)) h rfl
    · exact eLeaf (θ := (fun (o : Int32) => o)) h rfl
-- OnlyUpward$Grammar.push(I)V
set_option maxRecDepth 100000 in
set_option maxHeartbeats 4000000 in
def E_X2_push (n : Nat) (S : ST) (a1 : Int32) : Option ST :=
  if (400 : Int32) ≤ (S.1 15 3) then some S else (wr S 17 400 (S.1 15 3) a1).bind fun S2 => lets (upI S2 15 3 ((S2.1 15 3) + (1 : Int32))) fun (S3 : ST) => some S3
set_option maxRecDepth 100000 in
set_option maxHeartbeats 4000000 in
theorem E_X2_push_ok {n : Nat} (hn : 30000 ≤ n) {K : AK} {R : Nat → Nat → Option Nat} {S : ST} {a1 : Int32} {tz en : Nat} (hL : Lay K R tz en) {o : ST} (h : E_X2_push n S a1 = some o) : F_X2_push n (mkM K R S) 15 a1 = some (mkM K R o) := by
  unfold E_X2_push at h
  unfold F_X2_push
  refine eGI (kd_15 hL) (Nat.le_of_ble_eq_true rfl) ?_
  refine eGR (kd_15 hL) (Nat.le_of_ble_eq_true rfl) (rd_15_2 hL) ?_
  refine eAL (kd_17 hL) (by decide) ?_
  refine eIF h (fun c1 h => ?_) (fun c1 h => ?_)
  · exact eLeaf (θ := (fun (o : ST) => (mkM K R o))) h rfl
  · refine eGR (kd_15 hL) (Nat.le_of_ble_eq_true rfl) (rd_15_2 hL) ?_
    refine eGI (kd_15 hL) (Nat.le_of_ble_eq_true rfl) ?_
    refine eWI (kd_17 hL) (Nat.le_of_ble_eq_true rfl) h (fun S2 h => ?_)
    refine eGI (kd_15 hL) (Nat.le_of_ble_eq_true rfl) ?_
    refine ePI (kd_15 hL) (Nat.le_of_ble_eq_true rfl) h (fun S3 h => ?_)
    exact eLeaf (θ := (fun (o : ST) => (mkM K R o))) h rfl
-- OnlyUpward$Grammar.takeBehindOperand(ILOnlyUpward$Laws;)V
set_option maxRecDepth 100000 in
set_option maxHeartbeats 4000000 in
def E_X2_takeBehindOperand (n : Nat) (S : ST) (l : Nat) (a1 : Int32) : Option ST :=
  jn (fun (S1 : ST) => (E_X2_take n S1 a1).bind fun S3 => some S3) fun j4 => jn ((E_X2_isReckoning n S a1).bind fun v5 => jn ((E_X2_tightness n S a1).bind fun v6 => (E_X2_release n S l v6).bind fun S8 => (E_X2_push n S8 a1).bind fun S10 => lets (upI S10 15 7 (0 : Int32)) fun (S11 : ST) => jn (fun (u12 : Int32) => gd (u12 = 0 ∨ u12 = 1) (lets (upI S11 15 9 u12) fun (S13 : ST) => j4 S13)) fun j15 => jn (j15 (1 : Int32)) fun j16 => if (S11.1 15 9) = 0 then (E_X2_isComparison n S11 a1).bind fun v18 => if v18 = 0 then j15 (0 : Int32) else j16 else j16) fun j20 => if v5 = 0 then (E_X2_isComparison n S a1).bind fun v22 => jn (jn (lets (upI S 15 5 (1 : Int32)) fun (S23 : ST) => j4 S23) fun j24 => jn (if (S.1 15 6) = 0 then if (S.1 15 9) = 0 then j24 else (E_X2_tightness n S a1).bind fun v27 => (E_X2_release n S l v27).bind fun S29 => (E_X2_push n S29 a1).bind fun S31 => lets (upI S31 15 7 (0 : Int32)) fun (S32 : ST) => lets (upI S32 15 8 (0 : Int32)) fun (S33 : ST) => lets (upI S33 15 9 (0 : Int32)) fun (S34 : ST) => j4 S34 else j24) fun j35 => if a1 = (14 : Int32) then j35 else if a1 = (13 : Int32) then j35 else j24) fun j38 => if v22 = 0 then j38 else if (S.1 15 6) = 0 then if (S.1 15 9) = 0 then j20 else j38 else j38 else j20) fun j42 => if a1 = (33 : Int32) then if (S.1 15 6) ≤ 0 then j42 else (E_X2_release n S l (1 : Int32)).bind fun S46 => lets (upI S46 15 3 (mxI (0 : Int32) ((S46.1 15 3) - (1 : Int32)))) fun (S47 : ST) => lets (upI S47 15 6 ((S47.1 15 6) - (1 : Int32))) fun (S48 : ST) => j4 S48 else j42
set_option maxRecDepth 100000 in
set_option maxHeartbeats 4000000 in
theorem E_X2_takeBehindOperand_ok {n : Nat} (hn : 30000 ≤ n) {K : AK} {R : Nat → Nat → Option Nat} {S : ST} {l : Nat} {a1 : Int32} {tz en : Nat} (hL : Lay K R tz en) (hl : LL K R l) {o : ST} (h : E_X2_takeBehindOperand n S l a1 = some o) : F_X2_takeBehindOperand n (mkM K R S) 15 a1 l = some (mkM K R o) := by
  unfold E_X2_takeBehindOperand at h
  unfold F_X2_takeBehindOperand
  refine eJN (fun j4 fj4 => ∀ (S1 : ST), j4 S1 = some o → fj4 (mkM K R S1) = some (mkM K R o)) h ?_ ?_
  · intro S1 h
    refine eCwV (kd_15 hL) (Nat.le_of_ble_eq_true rfl) (fun _ hv => E_X2_take_ok hn hL hv) h (fun S3 h => ?_)
    exact eLeaf (θ := (fun (o : ST) => (mkM K R o))) h rfl
  · intro j4 fj4 Jj4 h
    refine eJN (fun j42 fj42 => j42 = some o → fj42 = some (mkM K R o)) h ?_ ?_
    · intro h
      refine eCS (fun _ hv => E_X2_isReckoning_ok hn hL hv) h (fun v5 h => ?_)
      refine eJN (fun j20 fj20 => j20 = some o → fj20 = some (mkM K R o)) h ?_ ?_
      · intro h
        refine eCS (fun _ hv => E_X2_tightness_ok hn hL hv) h (fun v6 h => ?_)
        refine eCwV (kd_15 hL) (Nat.le_of_ble_eq_true rfl) (fun _ hv => E_X2_release_ok hn hL hl hv) h (fun S8 h => ?_)
        refine eCwV (kd_15 hL) (Nat.le_of_ble_eq_true rfl) (fun _ hv => E_X2_push_ok hn hL hv) h (fun S10 h => ?_)
        refine ePZ (kd_15 hL) (Nat.le_of_ble_eq_true rfl) (by decide) h (fun S11 h => ?_)
        refine eGI (kd_15 hL) (Nat.le_of_ble_eq_true rfl) ?_
        refine eJN (fun j15 fj15 => ∀ (u12 : Int32), j15 u12 = some o → fj15 u12 = some (mkM K R o)) h ?_ ?_
        · intro u12 h
          refine gd_elim h (fun c14 h => ?_)
          refine ePZ (kd_15 hL) (Nat.le_of_ble_eq_true rfl) c14 h (fun S13 h => ?_)
          exact Jj4 _ h
        · intro j15 fj15 Jj15 h
          refine eJN (fun j16 fj16 => j16 = some o → fj16 = some (mkM K R o)) h ?_ ?_
          · intro h
            exact Jj15 _ h
          · intro j16 fj16 Jj16 h
            refine eIF h (fun c17 h => ?_) (fun c17 h => ?_)
            · refine eCS (fun _ hv => E_X2_isComparison_ok hn hL hv) h (fun v18 h => ?_)
              refine eIF h (fun c19 h => ?_) (fun c19 h => ?_)
              · exact Jj15 _ h
              · exact Jj16 h
            · exact Jj16 h
      · intro j20 fj20 Jj20 h
        refine eIF h (fun c21 h => ?_) (fun c21 h => ?_)
        · refine eCS (fun _ hv => E_X2_isComparison_ok hn hL hv) h (fun v22 h => ?_)
          refine eJN (fun j38 fj38 => j38 = some o → fj38 = some (mkM K R o)) h ?_ ?_
          · intro h
            refine eJN (fun j24 fj24 => j24 = some o → fj24 = some (mkM K R o)) h ?_ ?_
            · intro h
              refine ePI (kd_15 hL) (Nat.le_of_ble_eq_true rfl) h (fun S23 h => ?_)
              exact Jj4 _ h
            · intro j24 fj24 Jj24 h
              refine eJN (fun j35 fj35 => j35 = some o → fj35 = some (mkM K R o)) h ?_ ?_
              · intro h
                refine eGI (kd_15 hL) (Nat.le_of_ble_eq_true rfl) ?_
                refine eIF h (fun c25 h => ?_) (fun c25 h => ?_)
                · refine eGI (kd_15 hL) (Nat.le_of_ble_eq_true rfl) ?_
                  refine eIF h (fun c26 h => ?_) (fun c26 h => ?_)
                  · exact Jj24 h
                  · refine eCS (fun _ hv => E_X2_tightness_ok hn hL hv) h (fun v27 h => ?_)
                    refine eCwV (kd_15 hL) (Nat.le_of_ble_eq_true rfl) (fun _ hv => E_X2_release_ok hn hL hl hv) h (fun S29 h => ?_)
                    refine eCwV (kd_15 hL) (Nat.le_of_ble_eq_true rfl) (fun _ hv => E_X2_push_ok hn hL hv) h (fun S31 h => ?_)
                    refine ePZ (kd_15 hL) (Nat.le_of_ble_eq_true rfl) (by decide) h (fun S32 h => ?_)
                    refine ePZ (kd_15 hL) (Nat.le_of_ble_eq_true rfl) (by decide) h (fun S33 h => ?_)
                    refine ePZ (kd_15 hL) (Nat.le_of_ble_eq_true rfl) (by decide) h (fun S34 h => ?_)
                    exact Jj4 _ h
                · exact Jj24 h
              · intro j35 fj35 Jj35 h
                refine eIF h (fun c36 h => ?_) (fun c36 h => ?_)
                · exact Jj35 h
                · refine eIF h (fun c37 h => ?_) (fun c37 h => ?_)
                  · exact Jj35 h
                  · exact Jj24 h
          · intro j38 fj38 Jj38 h
            refine eIF h (fun c39 h => ?_) (fun c39 h => ?_)
            · exact Jj38 h
            · refine eGI (kd_15 hL) (Nat.le_of_ble_eq_true rfl) ?_
              refine eIF h (fun c40 h => ?_) (fun c40 h => ?_)
              · refine eGI (kd_15 hL) (Nat.le_of_ble_eq_true rfl) ?_
                refine eIF h (fun c41 h => ?_) (fun c41 h => ?_)
                · exact Jj20 h
                · exact Jj38 h
              · exact Jj38 h
        · exact Jj20 h
    · intro j42 fj42 Jj42 h
      refine eIF h (fun c43 h => ?_) (fun c43 h => ?_)
      · refine eGI (kd_15 hL) (Nat.le_of_ble_eq_true rfl) ?_
        refine eIF h (fun c44 h => ?_) (fun c44 h => ?_)
        · exact Jj42 h
        · refine eCwV (kd_15 hL) (Nat.le_of_ble_eq_true rfl) (fun _ hv => E_X2_release_ok hn hL hl hv) h (fun S46 h => ?_)
          refine eGI (kd_15 hL) (Nat.le_of_ble_eq_true rfl) ?_
          refine ePI (kd_15 hL) (Nat.le_of_ble_eq_true rfl) h (fun S47 h => ?_)
          refine eGI (kd_15 hL) (Nat.le_of_ble_eq_true rfl) ?_
          refine ePI (kd_15 hL) (Nat.le_of_ble_eq_true rfl) h (fun S48 h => ?_)
          exact Jj4 _ h
      · exact Jj42 h
-- OnlyUpward$Tokens.valueAt(I)J
set_option maxRecDepth 100000 in
set_option maxHeartbeats 4000000 in
def E_X9_valueAt (n : Nat) (S : ST) (a1 : Int32) : Option Int64 :=
  jn (fun (u1 : Int64) => some u1) fun j2 => jn (j2 (0 : Int64)) fun j3 => if a1 < 0 then j3 else if (S.1 10 4) ≤ a1 then j3 else (rd (S.2 13) 402 a1).bind fun v6 => j2 v6
set_option maxRecDepth 100000 in
set_option maxHeartbeats 4000000 in
theorem E_X9_valueAt_ok {n : Nat} (hn : 30000 ≤ n) {K : AK} {R : Nat → Nat → Option Nat} {S : ST} {a1 : Int32} {tz en : Nat} (hL : Lay K R tz en) {o : Int64} (h : E_X9_valueAt n S a1 = some o) : F_X9_valueAt n (mkM K R S) 10 a1 = some o := by
  unfold E_X9_valueAt at h
  unfold F_X9_valueAt
  refine eJN (fun j2 fj2 => ∀ (u1 : Int64), j2 u1 = some o → fj2 u1 = some o) h ?_ ?_
  · intro u1 h
    exact eLeaf (θ := (fun (o : Int64) => o)) h rfl
  · intro j2 fj2 Jj2 h
    refine eJN (fun j3 fj3 => j3 = some o → fj3 = some o) h ?_ ?_
    · intro h
      exact Jj2 _ h
    · intro j3 fj3 Jj3 h
      refine eIF h (fun c4 h => ?_) (fun c4 h => ?_)
      · exact Jj3 h
      · refine eGI (kd_10 hL) (Nat.le_of_ble_eq_true rfl) ?_
        refine eIF h (fun c5 h => ?_) (fun c5 h => ?_)
        · exact Jj3 h
        · refine eGR (kd_10 hL) (Nat.le_of_ble_eq_true rfl) (rd_10_2 hL) ?_
          refine eRL (kd_13 hL) (Nat.le_of_ble_eq_true rfl) h (fun v6 h => ?_)
          exact Jj2 _ h
-- OnlyUpward$Grammar.takeOperand(ILOnlyUpward$Laws;)V
set_option maxRecDepth 100000 in
set_option maxHeartbeats 4000000 in
def E_X2_takeOperand (n : Nat) (S : ST) (l : Nat) (a1 : Int32) : Option ST :=
  jn (fun (S1 : ST) => jn (fun (S2 : ST) => jn (fun (S3 : ST) => (E_X2_take n S3 a1).bind fun S5 => some S5) fun j6 => if a1 = (15 : Int32) then j6 S2 else lets (upI S2 15 8 (1 : Int32)) fun (S8 : ST) => j6 S8) fun j9 => if a1 = (32 : Int32) then lets (upI S1 15 6 ((S1.1 15 6) + (1 : Int32))) fun (S11 : ST) => j9 S11 else j9 S1) fun j12 => jn ((E_X2_push n S a1).bind fun S14 => j12 S14) fun j15 => jn (jn (if a1 = (32 : Int32) then lets (upI S 15 5 (2 : Int32)) fun (S17 : ST) => j12 S17 else jn ((E_X9_valueAt n S (S.1 15 4)).bind fun v18 => (E_X4_put n S l a1 (v18).toInt32).bind fun S20 => lets (upI S20 15 7 (1 : Int32)) fun (S21 : ST) => j12 S21) fun j22 => if a1 = (21 : Int32) then j22 else jn (lets (upI S 15 5 (1 : Int32)) fun (S24 : ST) => j12 S24) fun j25 => if a1 < (16 : Int32) then j25 else if (19 : Int32) < a1 then j25 else j22) fun j28 => if a1 = (32 : Int32) then if (6 : Int32) ≤ (S.1 15 6) then j28 else j15 else j28) fun j31 => if a1 = (15 : Int32) then if (S.1 15 8) = 0 then j15 else j31 else j31
set_option maxRecDepth 100000 in
set_option maxHeartbeats 4000000 in
theorem E_X2_takeOperand_ok {n : Nat} (hn : 30000 ≤ n) {K : AK} {R : Nat → Nat → Option Nat} {S : ST} {l : Nat} {a1 : Int32} {tz en : Nat} (hL : Lay K R tz en) (hl : LL K R l) {o : ST} (h : E_X2_takeOperand n S l a1 = some o) : F_X2_takeOperand n (mkM K R S) 15 a1 l = some (mkM K R o) := by
  unfold E_X2_takeOperand at h
  unfold F_X2_takeOperand
  refine eJN (fun j12 fj12 => ∀ (S1 : ST), j12 S1 = some o → fj12 (mkM K R S1) = some (mkM K R o)) h ?_ ?_
  · intro S1 h
    refine eJN (fun j9 fj9 => ∀ (S2 : ST), j9 S2 = some o → fj9 (mkM K R S2) = some (mkM K R o)) h ?_ ?_
    · intro S2 h
      refine eJN (fun j6 fj6 => ∀ (S3 : ST), j6 S3 = some o → fj6 (mkM K R S3) = some (mkM K R o)) h ?_ ?_
      · intro S3 h
        refine eCwV (kd_15 hL) (Nat.le_of_ble_eq_true rfl) (fun _ hv => E_X2_take_ok hn hL hv) h (fun S5 h => ?_)
        exact eLeaf (θ := (fun (o : ST) => (mkM K R o))) h rfl
      · intro j6 fj6 Jj6 h
        refine eIF h (fun c7 h => ?_) (fun c7 h => ?_)
        · exact Jj6 _ h
        · refine ePZ (kd_15 hL) (Nat.le_of_ble_eq_true rfl) (by decide) h (fun S8 h => ?_)
          exact Jj6 _ h
    · intro j9 fj9 Jj9 h
      refine eIF h (fun c10 h => ?_) (fun c10 h => ?_)
      · refine eGI (kd_15 hL) (Nat.le_of_ble_eq_true rfl) ?_
        refine ePI (kd_15 hL) (Nat.le_of_ble_eq_true rfl) h (fun S11 h => ?_)
        exact Jj9 _ h
      · exact Jj9 _ h
  · intro j12 fj12 Jj12 h
    refine eJN (fun j15 fj15 => j15 = some o → fj15 = some (mkM K R o)) h ?_ ?_
    · intro h
      refine eCwV (kd_15 hL) (Nat.le_of_ble_eq_true rfl) (fun _ hv => E_X2_push_ok hn hL hv) h (fun S14 h => ?_)
      exact Jj12 _ h
    · intro j15 fj15 Jj15 h
      refine eJN (fun j31 fj31 => j31 = some o → fj31 = some (mkM K R o)) h ?_ ?_
      · intro h
        refine eJN (fun j28 fj28 => j28 = some o → fj28 = some (mkM K R o)) h ?_ ?_
        · intro h
          refine eIF h (fun c16 h => ?_) (fun c16 h => ?_)
          · refine ePI (kd_15 hL) (Nat.le_of_ble_eq_true rfl) h (fun S17 h => ?_)
            exact Jj12 _ h
          · refine eJN (fun j22 fj22 => j22 = some o → fj22 = some (mkM K R o)) h ?_ ?_
            · intro h
              refine eGR (kd_15 hL) (Nat.le_of_ble_eq_true rfl) (rd_15_0 hL) ?_
              refine eGI (kd_15 hL) (Nat.le_of_ble_eq_true rfl) ?_
              refine eCV (kd_10 hL) (Nat.le_of_ble_eq_true rfl) (fun _ hv => E_X9_valueAt_ok hn hL hv) h (fun v18 h => ?_)
              refine eCwV (kL_0 hl) (k8L 0 hl) (fun _ hv => E_X4_put_ok hn hL hl hv) h (fun S20 h => ?_)
              refine ePZ (kd_15 hL) (Nat.le_of_ble_eq_true rfl) (by decide) h (fun S21 h => ?_)
              exact Jj12 _ h
            · intro j22 fj22 Jj22 h
              refine eIF h (fun c23 h => ?_) (fun c23 h => ?_)
              · exact Jj22 h
              · refine eJN (fun j25 fj25 => j25 = some o → fj25 = some (mkM K R o)) h ?_ ?_
                · intro h
                  refine ePI (kd_15 hL) (Nat.le_of_ble_eq_true rfl) h (fun S24 h => ?_)
                  exact Jj12 _ h
                · intro j25 fj25 Jj25 h
                  refine eIF h (fun c26 h => ?_) (fun c26 h => ?_)
                  · exact Jj25 h
                  · refine eIF h (fun c27 h => ?_) (fun c27 h => ?_)
                    · exact Jj25 h
                    · exact Jj22 h
        · intro j28 fj28 Jj28 h
          refine eIF h (fun c29 h => ?_) (fun c29 h => ?_)
          · refine eGI (kd_15 hL) (Nat.le_of_ble_eq_true rfl) ?_
            refine eIF h (fun c30 h => ?_) (fun c30 h => ?_)
            · exact Jj28 h
            · exact Jj15 h
          · exact Jj28 h
      · intro j31 fj31 Jj31 h
        refine eIF h (fun c32 h => ?_) (fun c32 h => ?_)
        · refine eGI (kd_15 hL) (Nat.le_of_ble_eq_true rfl) ?_
          refine eIF h (fun c33 h => ?_) (fun c33 h => ?_)
          · exact Jj15 h
          · exact Jj31 h
        · exact Jj31 h
-- OnlyUpward$Grammar.takeCondition(LOnlyUpward$Laws;)V
set_option maxRecDepth 100000 in
set_option maxHeartbeats 4000000 in
def E_X2_takeCondition (n : Nat) (S : ST) (l : Nat) : Option ST :=
  lets (upI S 15 3 (0 : Int32)) fun (S1 : ST) => lets (upI S1 15 6 (0 : Int32)) fun (S2 : ST) => lets (upI S2 15 7 (0 : Int32)) fun (S3 : ST) => lets (upI S3 15 8 (0 : Int32)) fun (S4 : ST) => lets (upI S4 15 9 (0 : Int32)) fun (S5 : ST) => (iter (fun (s6 : Int32 × ST) => if (400 : Int32) < s6.1 then some (.inr s6.2) else if (s6.2.1 15 5) = 0 then (E_X9_kindAt n s6.2 (s6.2.1 15 4)).bind fun v9 => jn (jn (fun (S10 : ST) => some (.inl ((s6.1 + (1 : Int32)), S10))) fun j11 => if (s6.2.1 15 7) = 0 then (E_X2_takeOperand n s6.2 l v9).bind fun S14 => j11 S14 else (E_X2_takeBehindOperand n s6.2 l v9).bind fun S16 => j11 S16) fun j17 => if v9 = (22 : Int32) then if (s6.2.1 15 7) = 0 then j17 else if (s6.2.1 15 6) = 0 then if (s6.2.1 15 9) = 0 then j17 else some (.inr s6.2) else j17 else j17 else some (.inr s6.2)) n ((0 : Int32), S5)).bind fun (e6 : ST) => (E_X2_release n e6 l (1 : Int32)).bind fun S23 => some S23
set_option maxRecDepth 100000 in
set_option maxHeartbeats 4000000 in
theorem E_X2_takeCondition_ok {n : Nat} (hn : 30000 ≤ n) {K : AK} {R : Nat → Nat → Option Nat} {S : ST} {l : Nat} {tz en : Nat} (hL : Lay K R tz en) (hl : LL K R l) {o : ST} (h : E_X2_takeCondition n S l = some o) : F_X2_takeCondition n (mkM K R S) 15 l = some (mkM K R o) := by
  unfold E_X2_takeCondition at h
  unfold F_X2_takeCondition
  refine ePI (kd_15 hL) (Nat.le_of_ble_eq_true rfl) h (fun S1 h => ?_)
  refine ePI (kd_15 hL) (Nat.le_of_ble_eq_true rfl) h (fun S2 h => ?_)
  refine ePZ (kd_15 hL) (Nat.le_of_ble_eq_true rfl) (by decide) h (fun S3 h => ?_)
  refine ePZ (kd_15 hL) (Nat.le_of_ble_eq_true rfl) (by decide) h (fun S4 h => ?_)
  refine ePZ (kd_15 hL) (Nat.le_of_ble_eq_true rfl) (by decide) h (fun S5 h => ?_)
  refine eLP (fun (s6 : Int32 × ST) => (s6.1, mkM K R s6.2)) (fun (e6 : ST) => mkM K R e6) h rfl ?_ ?_
  · intro s6 x6 h
    refine eIF h (fun c7 h => ?_) (fun c7 h => ?_)
    · exact eLeaf (θ := (Sum.map (fun (s6 : Int32 × ST) => (s6.1, mkM K R s6.2)) (fun (e6 : ST) => mkM K R e6))) h rfl
    · refine eGI (kd_15 hL) (Nat.le_of_ble_eq_true rfl) ?_
      refine eIF h (fun c8 h => ?_) (fun c8 h => ?_)
      · refine eGR (kd_15 hL) (Nat.le_of_ble_eq_true rfl) (rd_15_0 hL) ?_
        refine eGI (kd_15 hL) (Nat.le_of_ble_eq_true rfl) ?_
        refine eCV (kd_10 hL) (Nat.le_of_ble_eq_true rfl) (fun _ hv => E_X9_kindAt_ok hn hL hv) h (fun v9 h => ?_)
        refine eJN (fun j17 fj17 => j17 = some x6 → fj17 = some (Sum.map (fun (s6 : Int32 × ST) => (s6.1, mkM K R s6.2)) (fun (e6 : ST) => mkM K R e6) x6)) h ?_ ?_
        · intro h
          refine eGI (kd_15 hL) (Nat.le_of_ble_eq_true rfl) ?_
          refine eJN (fun j11 fj11 => ∀ (S10 : ST), j11 S10 = some x6 → fj11 (mkM K R S10) = some (Sum.map (fun (s6 : Int32 × ST) => (s6.1, mkM K R s6.2)) (fun (e6 : ST) => mkM K R e6) x6)) h ?_ ?_
          · intro S10 h
            exact eLeaf (θ := (Sum.map (fun (s6 : Int32 × ST) => (s6.1, mkM K R s6.2)) (fun (e6 : ST) => mkM K R e6))) h rfl
          · intro j11 fj11 Jj11 h
            refine eIF h (fun c12 h => ?_) (fun c12 h => ?_)
            · refine eCwV (kd_15 hL) (Nat.le_of_ble_eq_true rfl) (fun _ hv => E_X2_takeOperand_ok hn hL hl hv) h (fun S14 h => ?_)
              exact Jj11 _ h
            · refine eCwV (kd_15 hL) (Nat.le_of_ble_eq_true rfl) (fun _ hv => E_X2_takeBehindOperand_ok hn hL hl hv) h (fun S16 h => ?_)
              exact Jj11 _ h
        · intro j17 fj17 Jj17 h
          refine eIF h (fun c18 h => ?_) (fun c18 h => ?_)
          · refine eGI (kd_15 hL) (Nat.le_of_ble_eq_true rfl) ?_
            refine eIF h (fun c19 h => ?_) (fun c19 h => ?_)
            · exact Jj17 h
            · refine eGI (kd_15 hL) (Nat.le_of_ble_eq_true rfl) ?_
              refine eIF h (fun c20 h => ?_) (fun c20 h => ?_)
              · refine eGI (kd_15 hL) (Nat.le_of_ble_eq_true rfl) ?_
                refine eIF h (fun c21 h => ?_) (fun c21 h => ?_)
                · exact Jj17 h
                · exact eLeaf (θ := (Sum.map (fun (s6 : Int32 × ST) => (s6.1, mkM K R s6.2)) (fun (e6 : ST) => mkM K R e6))) h rfl
              · exact Jj17 h
          · exact Jj17 h
      · exact eLeaf (θ := (Sum.map (fun (s6 : Int32 × ST) => (s6.1, mkM K R s6.2)) (fun (e6 : ST) => mkM K R e6))) h rfl
  · intro e6 h
    refine eCwV (kd_15 hL) (Nat.le_of_ble_eq_true rfl) (fun _ hv => E_X2_release_ok hn hL hl hv) h (fun S23 h => ?_)
    exact eLeaf (θ := (fun (o : ST) => (mkM K R o))) h rfl
-- OnlyUpward$Laws.end()V
set_option maxRecDepth 100000 in
set_option maxHeartbeats 4000000 in
def E_X4_end (n : Nat) (S : ST) (l : Nat) : Option ST :=
  (wr S (l + 4) 8 (S.1 l 8) (S.1 l 7)).bind fun S1 => some S1
set_option maxRecDepth 100000 in
set_option maxHeartbeats 4000000 in
theorem E_X4_end_ok {n : Nat} (hn : 30000 ≤ n) {K : AK} {R : Nat → Nat → Option Nat} {S : ST} {l : Nat} {tz en : Nat} (hL : Lay K R tz en) (hl : LL K R l) {o : ST} (h : E_X4_end n S l = some o) : F_X4_end n (mkM K R S) l = some (mkM K R o) := by
  unfold E_X4_end at h
  unfold F_X4_end
  refine eGR (kL_0 hl) (k8L 0 hl) (rL_0_3 hl) ?_
  refine eGI (kL_0 hl) (k8L 0 hl) ?_
  refine eGI (kL_0 hl) (k8L 0 hl) ?_
  refine eWI (kL_4 hl) (k8L 4 hl) h (fun S1 h => ?_)
  exact eLeaf (θ := (fun (o : ST) => (mkM K R o))) h rfl
-- OnlyUpward$Grammar.checkTell(LOnlyUpward$Laws;)V
set_option maxRecDepth 100000 in
set_option maxHeartbeats 4000000 in
def E_X2_checkTell (n : Nat) (S : ST) (l : Nat) : Option ST :=
  (E_X9_kindAt n S (S.1 15 4)).bind fun v1 => if v1 < (11 : Int32) then (rd (S.1 16) 11 v1).bind fun v3 => (wr S 16 11 v1 (v3 + (1 : Int32))).bind fun S4 => (rd (S4.1 16) 11 v1).bind fun v5 => (rd (S4.1 1) 11 v1).bind fun v6 => if v5 ≤ v6 then (E_X2_take n S4 v1).bind fun S9 => (iter (fun (s10 : Int32 × ST) => (rd (s10.2.1 2) 11 v1).bind fun v11 => if v11 ≤ s10.1 then some (.inr s10.2) else (E_X2_take n s10.2 (20 : Int32)).bind fun S14 => some (.inl ((s10.1 + (1 : Int32)), S14))) n ((0 : Int32), S9)).bind fun (e10 : ST) => (iter (fun (s15 : Int32 × ST) => (rd (s15.2.1 3) 11 v1).bind fun v16 => if v16 ≤ s15.1 then some (.inr s15.2) else (E_X2_take n s15.2 (21 : Int32)).bind fun S19 => some (.inl ((s15.1 + (1 : Int32)), S19))) n ((0 : Int32), e10)).bind fun (e15 : ST) => jn (fun (S20 : ST) => jn (fun (S21 : ST) => jn (fun (S22 : ST) => (E_X2_take n S22 (22 : Int32)).bind fun S24 => some S24) fun j25 => jn ((E_X2_take n S21 (12 : Int32)).bind fun S27 => jn (fun (u28 : Int32) => (E_X4_begin n S27 l u28).bind fun S30 => (E_X2_takeCondition n S30 l).bind fun S32 => (E_X4_end n S32 l).bind fun S34 => j25 S34) fun j35 => if v1 = (10 : Int32) then j35 (1 : Int32) else j35 (0 : Int32)) fun j37 => if v1 = (9 : Int32) then j37 else if v1 = (10 : Int32) then j37 else j25 S21) fun j40 => if v1 = (8 : Int32) then (E_X2_takeFurtherNames n S20 ).bind fun S43 => j40 S43 else j40 S20) fun j44 => if v1 = (1 : Int32) then (E_X9_kindAt n e15 (e15.1 15 4)).bind fun v46 => if v46 = (11 : Int32) then (E_X2_take n e15 (11 : Int32)).bind fun S49 => (E_X2_take n S49 (21 : Int32)).bind fun S51 => j44 S51 else j44 e15 else j44 e15 else lets (upI S4 15 5 (2 : Int32)) fun (S52 : ST) => some S52 else lets (upI S 15 5 (1 : Int32)) fun (S53 : ST) => some S53
set_option maxRecDepth 100000 in
set_option maxHeartbeats 4000000 in
theorem E_X2_checkTell_ok {n : Nat} (hn : 30000 ≤ n) {K : AK} {R : Nat → Nat → Option Nat} {S : ST} {l : Nat} {tz en : Nat} (hL : Lay K R tz en) (hl : LL K R l) {o : ST} (h : E_X2_checkTell n S l = some o) : F_X2_checkTell n (mkM K R S) 15 l = some (mkM K R o) := by
  unfold E_X2_checkTell at h
  unfold F_X2_checkTell
  refine eGR (kd_15 hL) (Nat.le_of_ble_eq_true rfl) (rd_15_0 hL) ?_
  refine eGI (kd_15 hL) (Nat.le_of_ble_eq_true rfl) ?_
  refine eCV (kd_10 hL) (Nat.le_of_ble_eq_true rfl) (fun _ hv => E_X9_kindAt_ok hn hL hv) h (fun v1 h => ?_)
  refine eIF h (fun c2 h => ?_) (fun c2 h => ?_)
  · refine eGR (kd_15 hL) (Nat.le_of_ble_eq_true rfl) (rd_15_1 hL) ?_
    refine eRI (kd_16 hL) h (fun v3 h => ?_)
    refine eWI (kd_16 hL) (Nat.le_of_ble_eq_true rfl) h (fun S4 h => ?_)
    refine eGR (kd_15 hL) (Nat.le_of_ble_eq_true rfl) (rd_15_1 hL) ?_
    refine eRI (kd_16 hL) h (fun v5 h => ?_)
    refine eRI (kd_1 hL) h (fun v6 h => ?_)
    refine eIF h (fun c7 h => ?_) (fun c7 h => ?_)
    · refine eCwV (kd_15 hL) (Nat.le_of_ble_eq_true rfl) (fun _ hv => E_X2_take_ok hn hL hv) h (fun S9 h => ?_)
      refine eLP (fun (s10 : Int32 × ST) => (s10.1, mkM K R s10.2)) (fun (e10 : ST) => mkM K R e10) h rfl ?_ ?_
      · intro s10 x10 h
        refine eRI (kd_2 hL) h (fun v11 h => ?_)
        refine eIF h (fun c12 h => ?_) (fun c12 h => ?_)
        · exact eLeaf (θ := (Sum.map (fun (s10 : Int32 × ST) => (s10.1, mkM K R s10.2)) (fun (e10 : ST) => mkM K R e10))) h rfl
        · refine eCwV (kd_15 hL) (Nat.le_of_ble_eq_true rfl) (fun _ hv => E_X2_take_ok hn hL hv) h (fun S14 h => ?_)
          exact eLeaf (θ := (Sum.map (fun (s10 : Int32 × ST) => (s10.1, mkM K R s10.2)) (fun (e10 : ST) => mkM K R e10))) h rfl
      · intro e10 h
        refine eLP (fun (s15 : Int32 × ST) => (s15.1, mkM K R s15.2)) (fun (e15 : ST) => mkM K R e15) h rfl ?_ ?_
        · intro s15 x15 h
          refine eRI (kd_3 hL) h (fun v16 h => ?_)
          refine eIF h (fun c17 h => ?_) (fun c17 h => ?_)
          · exact eLeaf (θ := (Sum.map (fun (s15 : Int32 × ST) => (s15.1, mkM K R s15.2)) (fun (e15 : ST) => mkM K R e15))) h rfl
          · refine eCwV (kd_15 hL) (Nat.le_of_ble_eq_true rfl) (fun _ hv => E_X2_take_ok hn hL hv) h (fun S19 h => ?_)
            exact eLeaf (θ := (Sum.map (fun (s15 : Int32 × ST) => (s15.1, mkM K R s15.2)) (fun (e15 : ST) => mkM K R e15))) h rfl
        · intro e15 h
          refine eJN (fun j44 fj44 => ∀ (S20 : ST), j44 S20 = some o → fj44 (mkM K R S20) = some (mkM K R o)) h ?_ ?_
          · intro S20 h
            refine eJN (fun j40 fj40 => ∀ (S21 : ST), j40 S21 = some o → fj40 (mkM K R S21) = some (mkM K R o)) h ?_ ?_
            · intro S21 h
              refine eJN (fun j25 fj25 => ∀ (S22 : ST), j25 S22 = some o → fj25 (mkM K R S22) = some (mkM K R o)) h ?_ ?_
              · intro S22 h
                refine eCwV (kd_15 hL) (Nat.le_of_ble_eq_true rfl) (fun _ hv => E_X2_take_ok hn hL hv) h (fun S24 h => ?_)
                exact eLeaf (θ := (fun (o : ST) => (mkM K R o))) h rfl
              · intro j25 fj25 Jj25 h
                refine eJN (fun j37 fj37 => j37 = some o → fj37 = some (mkM K R o)) h ?_ ?_
                · intro h
                  refine eCwV (kd_15 hL) (Nat.le_of_ble_eq_true rfl) (fun _ hv => E_X2_take_ok hn hL hv) h (fun S27 h => ?_)
                  refine eJN (fun j35 fj35 => ∀ (u28 : Int32), j35 u28 = some o → fj35 u28 = some (mkM K R o)) h ?_ ?_
                  · intro u28 h
                    refine eCwV (kL_0 hl) (k8L 0 hl) (fun _ hv => E_X4_begin_ok hn hL hl hv) h (fun S30 h => ?_)
                    refine eCwV (kd_15 hL) (Nat.le_of_ble_eq_true rfl) (fun _ hv => E_X2_takeCondition_ok hn hL hl hv) h (fun S32 h => ?_)
                    refine eCwV (kL_0 hl) (k8L 0 hl) (fun _ hv => E_X4_end_ok hn hL hl hv) h (fun S34 h => ?_)
                    exact Jj25 _ h
                  · intro j35 fj35 Jj35 h
                    refine eIF h (fun c36 h => ?_) (fun c36 h => ?_)
                    · exact Jj35 _ h
                    · exact Jj35 _ h
                · intro j37 fj37 Jj37 h
                  refine eIF h (fun c38 h => ?_) (fun c38 h => ?_)
                  · exact Jj37 h
                  · refine eIF h (fun c39 h => ?_) (fun c39 h => ?_)
                    · exact Jj37 h
                    · exact Jj25 _ h
            · intro j40 fj40 Jj40 h
              refine eIF h (fun c41 h => ?_) (fun c41 h => ?_)
              · refine eCwV (kd_15 hL) (Nat.le_of_ble_eq_true rfl) (fun _ hv => E_X2_takeFurtherNames_ok hn hL hv) h (fun S43 h => ?_)
                exact Jj40 _ h
              · exact Jj40 _ h
          · intro j44 fj44 Jj44 h
            refine eIF h (fun c45 h => ?_) (fun c45 h => ?_)
            · refine eGR (kd_15 hL) (Nat.le_of_ble_eq_true rfl) (rd_15_0 hL) ?_
              refine eGI (kd_15 hL) (Nat.le_of_ble_eq_true rfl) ?_
              refine eCV (kd_10 hL) (Nat.le_of_ble_eq_true rfl) (fun _ hv => E_X9_kindAt_ok hn hL hv) h (fun v46 h => ?_)
              refine eIF h (fun c47 h => ?_) (fun c47 h => ?_)
              · refine eCwV (kd_15 hL) (Nat.le_of_ble_eq_true rfl) (fun _ hv => E_X2_take_ok hn hL hv) h (fun S49 h => ?_)
                refine eCwV (kd_15 hL) (Nat.le_of_ble_eq_true rfl) (fun _ hv => E_X2_take_ok hn hL hv) h (fun S51 h => ?_)
                exact Jj44 _ h
              · exact Jj44 _ h
            · exact Jj44 _ h
    · refine ePI (kd_15 hL) (Nat.le_of_ble_eq_true rfl) h (fun S52 h => ?_)
      exact eLeaf (θ := (fun (o : ST) => (mkM K R o))) h rfl
  · refine ePI (kd_15 hL) (Nat.le_of_ble_eq_true rfl) h (fun S53 h => ?_)
    exact eLeaf (θ := (fun (o : ST) => (mkM K R o))) h rfl
-- OnlyUpward$Grammar.check(LOnlyUpward$Laws;)I
set_option maxRecDepth 100000 in
set_option maxHeartbeats 4000000 in
def E_X2_check (n : Nat) (S : ST) (l : Nat) : Option (Int32 × ST) :=
  lets (fillS S 16 11 (0 : Int32)) fun (S1 : ST) => lets (upI S1 15 4 (0 : Int32)) fun (S2 : ST) => lets (upI S2 15 5 (0 : Int32)) fun (S3 : ST) => (iter (fun (s4 : Int32 × ST) => if (400 : Int32) < s4.1 then some (.inr s4.2) else if (s4.2.1 15 5) = 0 then (E_X9_kindAt n s4.2 (s4.2.1 15 4)).bind fun v7 => if v7 = (35 : Int32) then some (.inr s4.2) else (E_X2_checkTell n s4.2 l).bind fun S10 => some (.inl ((s4.1 + (1 : Int32)), S10)) else some (.inr s4.2)) n ((0 : Int32), S3)).bind fun (e4 : ST) => some ((e4.1 15 5), e4)
set_option maxRecDepth 100000 in
set_option maxHeartbeats 4000000 in
theorem E_X2_check_ok {n : Nat} (hn : 30000 ≤ n) {K : AK} {R : Nat → Nat → Option Nat} {S : ST} {l : Nat} {tz en : Nat} (hL : Lay K R tz en) (hl : LL K R l) {o : (Int32 × ST)} (h : E_X2_check n S l = some o) : F_X2_check n (mkM K R S) 15 l = some (o.1, mkM K R o.2) := by
  unfold E_X2_check at h
  unfold F_X2_check
  refine eGR (kd_15 hL) (Nat.le_of_ble_eq_true rfl) (rd_15_1 hL) ?_
  refine eFL (by omega) (kd_16 hL) (Nat.le_of_ble_eq_true rfl) h (fun S1 h => ?_)
  refine ePI (kd_15 hL) (Nat.le_of_ble_eq_true rfl) h (fun S2 h => ?_)
  refine ePI (kd_15 hL) (Nat.le_of_ble_eq_true rfl) h (fun S3 h => ?_)
  refine eLP (fun (s4 : Int32 × ST) => (s4.1, mkM K R s4.2)) (fun (e4 : ST) => mkM K R e4) h rfl ?_ ?_
  · intro s4 x4 h
    refine eIF h (fun c5 h => ?_) (fun c5 h => ?_)
    · exact eLeaf (θ := (Sum.map (fun (s4 : Int32 × ST) => (s4.1, mkM K R s4.2)) (fun (e4 : ST) => mkM K R e4))) h rfl
    · refine eGI (kd_15 hL) (Nat.le_of_ble_eq_true rfl) ?_
      refine eIF h (fun c6 h => ?_) (fun c6 h => ?_)
      · refine eGR (kd_15 hL) (Nat.le_of_ble_eq_true rfl) (rd_15_0 hL) ?_
        refine eGI (kd_15 hL) (Nat.le_of_ble_eq_true rfl) ?_
        refine eCV (kd_10 hL) (Nat.le_of_ble_eq_true rfl) (fun _ hv => E_X9_kindAt_ok hn hL hv) h (fun v7 h => ?_)
        refine eIF h (fun c8 h => ?_) (fun c8 h => ?_)
        · exact eLeaf (θ := (Sum.map (fun (s4 : Int32 × ST) => (s4.1, mkM K R s4.2)) (fun (e4 : ST) => mkM K R e4))) h rfl
        · refine eCwV (kd_15 hL) (Nat.le_of_ble_eq_true rfl) (fun _ hv => E_X2_checkTell_ok hn hL hl hv) h (fun S10 h => ?_)
          exact eLeaf (θ := (Sum.map (fun (s4 : Int32 × ST) => (s4.1, mkM K R s4.2)) (fun (e4 : ST) => mkM K R e4))) h rfl
      · exact eLeaf (θ := (Sum.map (fun (s4 : Int32 × ST) => (s4.1, mkM K R s4.2)) (fun (e4 : ST) => mkM K R e4))) h rfl
  · intro e4 h
    refine eGI (kd_15 hL) (Nat.le_of_ble_eq_true rfl) ?_
    exact eLeaf (θ := (fun (o : (Int32 × ST)) => (o.1, mkM K R o.2))) h rfl
