-- OnlyUpward$World.isElder(III)Z
set_option maxRecDepth 100000 in
set_option maxHeartbeats 4000000 in
def E_X10_isElder (n : Nat) (S : ST) (w : Nat) (a1 : Int32) (a2 : Int32) (a3 : Int32) : Option Int32 :=
  (E_X10_ageAt n S w a1 a3).bind fun v1 => (E_X10_ageAt n S w a2 a3).bind fun v2 => jn (some (1 : Int32)) fun j3 => if v2 < v1 then j3 else if v1 = v2 then if a2 ≤ a1 then some (0 : Int32) else j3 else some (0 : Int32)
set_option maxRecDepth 100000 in
set_option maxHeartbeats 4000000 in
theorem E_X10_isElder_ok {n : Nat} (hn : 30000 ≤ n) {K : AK} {R : Nat → Nat → Option Nat} {S : ST} {w : Nat} {a1 : Int32} {a2 : Int32} {a3 : Int32} {tz en : Nat} (hL : Lay K R tz en) (hw : LW K R w) {o : Int32} (h : E_X10_isElder n S w a1 a2 a3 = some o) : F_X10_isElder n (mkM K R S) w a1 a2 a3 = some o := by
  unfold E_X10_isElder at h
  unfold F_X10_isElder
  refine eCV (kW_0 hw) (k8W 0 hw) (fun _ hv => E_X10_ageAt_ok hn hL hw hv) h (fun v1 h => ?_)
  refine eCV (kW_0 hw) (k8W 0 hw) (fun _ hv => E_X10_ageAt_ok hn hL hw hv) h (fun v2 h => ?_)
  refine eJN (fun j3 fj3 => j3 = some o → fj3 = some o) h ?_ ?_
  · intro h
    exact eLeaf (θ := (fun (o : Int32) => o)) h rfl
  · intro j3 fj3 Jj3 h
    refine eIF h (fun c4 h => ?_) (fun c4 h => ?_)
    · exact Jj3 h
    · refine eIF h (fun c5 h => ?_) (fun c5 h => ?_)
      · refine eIF h (fun c6 h => ?_) (fun c6 h => ?_)
        · exact eLeaf (θ := (fun (o : Int32) => o)) h rfl
        · exact Jj3 h
      · exact eLeaf (θ := (fun (o : Int32) => o)) h rfl
-- OnlyUpward.knowMore(LOnlyUpward$Knowledge;II)I
set_option maxRecDepth 100000 in
set_option maxHeartbeats 4000000 in
def E_X11_knowMore (n : Nat) (S : ST) (k : Nat) (tw : Nat) (a2 : Int32) (a3 : Int32) : Option Int32 :=
  (E_X3_thingsOf n S k a2 a3).bind fun v1 => (E_J6_bitCount_0f7a4 n S v1).bind fun v2 => (iter (fun (s3 : Int32 × Int32) => (rd (S.1 (tw + 1)) 11 (1 : Int32)).bind fun v4 => if v4 ≤ s3.2 then some (.inr s3.1) else (E_X3_thingsOf n S k s3.2 a3).bind fun v6 => (E_J6_bitCount_0f7a4 n S v6).bind fun v7 => jn (fun (u8 : Int32) => some (.inl (u8, (s3.2 + (1 : Int32))))) fun j9 => jn (j9 (s3.1 + (1 : Int32))) fun j10 => if v2 < v7 then j10 else if v7 = v2 then (E_X10_isElder n S tw s3.2 a2 a3).bind fun v13 => if v13 = 0 then j9 s3.1 else j10 else j9 s3.1) n ((0 : Int32), (0 : Int32))).bind fun (e3 : Int32) => some e3
set_option maxRecDepth 100000 in
set_option maxHeartbeats 4000000 in
theorem E_X11_knowMore_ok {n : Nat} (hn : 30000 ≤ n) {K : AK} {R : Nat → Nat → Option Nat} {S : ST} {k : Nat} {a2 : Int32} {a3 : Int32} {tw en : Nat} (hL : Lay K R tw en) (hk : LN K R k) {o : Int32} (h : E_X11_knowMore n S k tw a2 a3 = some o) : F_X11_knowMore n (mkM K R S) 8 k a2 a3 = some o := by
  unfold E_X11_knowMore at h
  unfold F_X11_knowMore
  refine eCV (kN_0 hk) (k8N 0 hk) (fun _ hv => E_X3_thingsOf_ok hn hL hk hv) h (fun v1 h => ?_)
  refine eCS (fun _ hv => E_J6_bitCount_0f7a4_ok hn hL hv) h (fun v2 h => ?_)
  refine eLP (fun (s3 : Int32 × Int32) => s3) (fun (e3 : Int32) => e3) h rfl ?_ ?_
  · intro s3 x3 h
    refine eGR (kd_8 hL) (Nat.le_of_ble_eq_true rfl) (rd_told hL) ?_
    refine eGR (kW_0 (layT hL)) (k8W 0 (layT hL)) (rW_0_0 (layT hL)) ?_
    refine eRI (kW_1 (layT hL)) h (fun v4 h => ?_)
    refine eIF h (fun c5 h => ?_) (fun c5 h => ?_)
    · exact eLeaf (θ := (Sum.map (fun (s3 : Int32 × Int32) => s3) (fun (e3 : Int32) => e3))) h rfl
    · refine eCV (kN_0 hk) (k8N 0 hk) (fun _ hv => E_X3_thingsOf_ok hn hL hk hv) h (fun v6 h => ?_)
      refine eCS (fun _ hv => E_J6_bitCount_0f7a4_ok hn hL hv) h (fun v7 h => ?_)
      refine eJN (fun j9 fj9 => ∀ (u8 : Int32), j9 u8 = some x3 → fj9 u8 = some (Sum.map (fun (s3 : Int32 × Int32) => s3) (fun (e3 : Int32) => e3) x3)) h ?_ ?_
      · intro u8 h
        exact eLeaf (θ := (Sum.map (fun (s3 : Int32 × Int32) => s3) (fun (e3 : Int32) => e3))) h rfl
      · intro j9 fj9 Jj9 h
        refine eJN (fun j10 fj10 => j10 = some x3 → fj10 = some (Sum.map (fun (s3 : Int32 × Int32) => s3) (fun (e3 : Int32) => e3) x3)) h ?_ ?_
        · intro h
          exact Jj9 _ h
        · intro j10 fj10 Jj10 h
          refine eIF h (fun c11 h => ?_) (fun c11 h => ?_)
          · exact Jj10 h
          · refine eIF h (fun c12 h => ?_) (fun c12 h => ?_)
            · refine eGR (kd_8 hL) (Nat.le_of_ble_eq_true rfl) (rd_told hL) ?_
              refine eCV (kW_0 (layT hL)) (k8W 0 (layT hL)) (fun _ hv => E_X10_isElder_ok hn hL (layT hL) hv) h (fun v13 h => ?_)
              refine eIF h (fun c14 h => ?_) (fun c14 h => ?_)
              · exact Jj9 _ h
              · exact Jj10 h
            · exact Jj9 _ h
  · intro e3 h
    exact eLeaf (θ := (fun (o : Int32) => o)) h rfl
-- OnlyUpward.rank(II)I
set_option maxRecDepth 100000 in
set_option maxHeartbeats 4000000 in
def E_X11_rank (n : Nat) (S : ST) (tw : Nat) (a1 : Int32) (a2 : Int32) : Option (Int32 × ST) :=
  (E_X11_isHourOrEnd n S a1).bind fun v1 => if v1 = 0 then some ((-1 : Int32), S) else (E_X11_isOne n S tw (1 : Int32) a2).bind fun v3 => if v3 = 0 then some ((-1 : Int32), S) else (E_X11_planCourse n S tw).bind fun S6 => (iter (fun (s7 : Int32) => (rd (S6.1 (tw + 1)) 11 (1 : Int32)).bind fun v8 => if v8 ≤ s7 then some (.inr (.inl ())) else (E_X11_knowMore n S6 77 tw s7 a1).bind fun v10 => if v10 = a2 then some (.inr (.inr (s7, S6))) else some (.inl (s7 + (1 : Int32)))) n (0 : Int32)).bind fun (z7 : (Unit) ⊕ (Int32 × ST)) => Sum.elim (fun (e7 : Unit) => some ((-1 : Int32), S6)) (fun (v : (Int32 × ST)) => some v) z7
set_option maxRecDepth 100000 in
set_option maxHeartbeats 4000000 in
theorem E_X11_rank_ok {n : Nat} (hn : 30000 ≤ n) {K : AK} {R : Nat → Nat → Option Nat} {S : ST} {a1 : Int32} {a2 : Int32} {tw en : Nat} (hL : Lay K R tw en) {o : (Int32 × ST)} (h : E_X11_rank n S tw a1 a2 = some o) : F_X11_rank n (mkM K R S) 8 a1 a2 = some (o.1, mkM K R o.2) := by
  unfold E_X11_rank at h
  unfold F_X11_rank
  refine eCS (fun _ hv => E_X11_isHourOrEnd_ok hn hL hv) h (fun v1 h => ?_)
  refine eIF h (fun c2 h => ?_) (fun c2 h => ?_)
  · exact eLeaf (θ := (fun (o : (Int32 × ST)) => (o.1, mkM K R o.2))) h rfl
  · refine eCV (kd_8 hL) (Nat.le_of_ble_eq_true rfl) (fun _ hv => E_X11_isOne_ok hn hL hv) h (fun v3 h => ?_)
    refine eIF h (fun c4 h => ?_) (fun c4 h => ?_)
    · exact eLeaf (θ := (fun (o : (Int32 × ST)) => (o.1, mkM K R o.2))) h rfl
    · refine eCwrV (kd_8 hL) (Nat.le_of_ble_eq_true rfl) (fun _ hv => E_X11_planCourse_ok hn hL hv) h (fun S6 h => ?_)
      refine eGR (kd_76 hL) (Nat.le_of_ble_eq_true rfl) (rd_76_0 hL) ?_
      refine eLP (fun (s7 : Int32) => s7) (Sum.map (fun (e7 : Unit) => e7) (fun (v : (Int32 × ST)) => (v.1, mkM K R v.2))) h rfl ?_ ?_
      · intro s7 x7 h
        refine eGR (kd_8 hL) (Nat.le_of_ble_eq_true rfl) (rd_told hL) ?_
        refine eGR (kW_0 (layT hL)) (k8W 0 (layT hL)) (rW_0_0 (layT hL)) ?_
        refine eRI (kW_1 (layT hL)) h (fun v8 h => ?_)
        refine eIF h (fun c9 h => ?_) (fun c9 h => ?_)
        · exact eLeaf (θ := (Sum.map (fun (s7 : Int32) => s7) (Sum.map (fun (e7 : Unit) => e7) (fun (v : (Int32 × ST)) => (v.1, mkM K R v.2))))) h rfl
        · refine eCV (kd_8 hL) (Nat.le_of_ble_eq_true rfl) (fun _ hv => E_X11_knowMore_ok hn hL (layN_77 hL) hv) h (fun v10 h => ?_)
          refine eIF h (fun c11 h => ?_) (fun c11 h => ?_)
          · exact eLeaf (θ := (Sum.map (fun (s7 : Int32) => s7) (Sum.map (fun (e7 : Unit) => e7) (fun (v : (Int32 × ST)) => (v.1, mkM K R v.2))))) h rfl
          · exact eLeaf (θ := (Sum.map (fun (s7 : Int32) => s7) (Sum.map (fun (e7 : Unit) => e7) (fun (v : (Int32 × ST)) => (v.1, mkM K R v.2))))) h rfl
      · intro z7 h
        rcases z7 with e7 | v
        · have h := sum_inl h
          exact eLeaf (θ := (fun (o : (Int32 × ST)) => (o.1, mkM K R o.2))) h rfl
        · have h := sum_inr h
          exact eLeaf (θ := (fun (o : (Int32 × ST)) => (o.1, mkM K R o.2))) h rfl
-- OnlyUpward$World.elder(II)I
set_option maxRecDepth 100000 in
set_option maxHeartbeats 4000000 in
def E_X10_elder (n : Nat) (S : ST) (w : Nat) (a1 : Int32) (a2 : Int32) : Option Int32 :=
  (iter (fun (s1 : Int32) => (rd (S.1 (w + 1)) 11 (1 : Int32)).bind fun v2 => if v2 ≤ s1 then some (.inr (.inl ())) else (iter (fun (s4 : Int32 × Int32) => (rd (S.1 (w + 1)) 11 (1 : Int32)).bind fun v5 => if v5 ≤ s4.2 then some (.inr s4.1) else (E_X10_isElder n S w s4.2 s1 a2).bind fun v7 => jn (fun (u8 : Int32) => some (.inl ((s4.1 + u8), (s4.2 + (1 : Int32))))) fun j9 => if v7 = 0 then j9 (0 : Int32) else j9 (1 : Int32)) n ((0 : Int32), (0 : Int32))).bind fun (e4 : Int32) => if e4 = a1 then some (.inr (.inr s1)) else some (.inl (s1 + (1 : Int32)))) n (0 : Int32)).bind fun (z1 : (Unit) ⊕ Int32) => Sum.elim (fun (e1 : Unit) => some (0 : Int32)) (fun (v : Int32) => some v) z1
set_option maxRecDepth 100000 in
set_option maxHeartbeats 4000000 in
theorem E_X10_elder_ok {n : Nat} (hn : 30000 ≤ n) {K : AK} {R : Nat → Nat → Option Nat} {S : ST} {w : Nat} {a1 : Int32} {a2 : Int32} {tz en : Nat} (hL : Lay K R tz en) (hw : LW K R w) {o : Int32} (h : E_X10_elder n S w a1 a2 = some o) : F_X10_elder n (mkM K R S) w a1 a2 = some o := by
  unfold E_X10_elder at h
  unfold F_X10_elder
  refine eLP (fun (s1 : Int32) => s1) (Sum.map (fun (e1 : Unit) => e1) (fun (v : Int32) => v)) h rfl ?_ ?_
  · intro s1 x1 h
    refine eGR (kW_0 hw) (k8W 0 hw) (rW_0_0 hw) ?_
    refine eRI (kW_1 hw) h (fun v2 h => ?_)
    refine eIF h (fun c3 h => ?_) (fun c3 h => ?_)
    · exact eLeaf (θ := (Sum.map (fun (s1 : Int32) => s1) (Sum.map (fun (e1 : Unit) => e1) (fun (v : Int32) => v)))) h rfl
    · refine eLP (fun (s4 : Int32 × Int32) => s4) (fun (e4 : Int32) => e4) h rfl ?_ ?_
      · intro s4 x4 h
        refine eGR (kW_0 hw) (k8W 0 hw) (rW_0_0 hw) ?_
        refine eRI (kW_1 hw) h (fun v5 h => ?_)
        refine eIF h (fun c6 h => ?_) (fun c6 h => ?_)
        · exact eLeaf (θ := (Sum.map (fun (s4 : Int32 × Int32) => s4) (fun (e4 : Int32) => e4))) h rfl
        · refine eCV (kW_0 hw) (k8W 0 hw) (fun _ hv => E_X10_isElder_ok hn hL hw hv) h (fun v7 h => ?_)
          refine eJN (fun j9 fj9 => ∀ (u8 : Int32), j9 u8 = some x4 → fj9 u8 = some (Sum.map (fun (s4 : Int32 × Int32) => s4) (fun (e4 : Int32) => e4) x4)) h ?_ ?_
          · intro u8 h
            exact eLeaf (θ := (Sum.map (fun (s4 : Int32 × Int32) => s4) (fun (e4 : Int32) => e4))) h rfl
          · intro j9 fj9 Jj9 h
            refine eIF h (fun c10 h => ?_) (fun c10 h => ?_)
            · exact Jj9 _ h
            · exact Jj9 _ h
      · intro e4 h
        refine eIF h (fun c11 h => ?_) (fun c11 h => ?_)
        · exact eLeaf (θ := (Sum.map (fun (s1 : Int32) => s1) (Sum.map (fun (e1 : Unit) => e1) (fun (v : Int32) => v)))) h rfl
        · exact eLeaf (θ := (Sum.map (fun (s1 : Int32) => s1) (Sum.map (fun (e1 : Unit) => e1) (fun (v : Int32) => v)))) h rfl
  · intro z1 h
    rcases z1 with e1 | v
    · have h := sum_inl h
      exact eLeaf (θ := (fun (o : Int32) => o)) h rfl
    · have h := sum_inr h
      exact eLeaf (θ := (fun (o : Int32) => o)) h rfl
-- OnlyUpward.share(III)I
set_option maxRecDepth 100000 in
set_option maxHeartbeats 4000000 in
def E_X11_share (n : Nat) (S : ST) (tw : Nat) (a1 : Int32) (a2 : Int32) (a3 : Int32) : Option (Int32 × ST) :=
  (E_X11_isHourOrEnd n S a1).bind fun v1 => if v1 = 0 then some ((-1 : Int32), S) else if a2 < 0 then some ((-1 : Int32), S) else if (10 : Int32) < a2 then some ((-1 : Int32), S) else if a3 < 0 then some ((-1 : Int32), S) else if a3 ≤ (1 : Int32) then jn (fun (u7 : Int32) => (iter (fun (s8 : Int32 × Int32 × ST) => (rd (s8.2.2.1 (tw + 1)) 11 (1 : Int32)).bind fun v9 => if v9 ≤ s8.2.1 then some (.inr (s8.1, s8.2.2)) else if u7 ≤ s8.2.1 then some (.inr (s8.1, s8.2.2)) else (E_X11_planCourse n s8.2.2 tw).bind fun S13 => (E_X10_elder n S13 tw s8.2.1 (0 : Int32)).bind fun v14 => (E_X3_thingsOf n S13 77 v14 a1).bind fun v15 => (E_J6_bitCount_0f7a4 n S13 v15).bind fun v16 => some (.inl ((s8.1 + v16), (s8.2.1 + (1 : Int32)), S13))) n ((0 : Int32), (0 : Int32), S)).bind fun (e8 : Int32 × ST) => some (e8.1, e8.2)) fun j17 => if a3 = (1 : Int32) then j17 (10 : Int32) else j17 a2 else some ((-1 : Int32), S)
set_option maxRecDepth 100000 in
set_option maxHeartbeats 4000000 in
theorem E_X11_share_ok {n : Nat} (hn : 30000 ≤ n) {K : AK} {R : Nat → Nat → Option Nat} {S : ST} {a1 : Int32} {a2 : Int32} {a3 : Int32} {tw en : Nat} (hL : Lay K R tw en) {o : (Int32 × ST)} (h : E_X11_share n S tw a1 a2 a3 = some o) : F_X11_share n (mkM K R S) 8 a1 a2 a3 = some (o.1, mkM K R o.2) := by
  unfold E_X11_share at h
  unfold F_X11_share
  refine eCS (fun _ hv => E_X11_isHourOrEnd_ok hn hL hv) h (fun v1 h => ?_)
  refine eIF h (fun c2 h => ?_) (fun c2 h => ?_)
  · exact eLeaf (θ := (fun (o : (Int32 × ST)) => (o.1, mkM K R o.2))) h rfl
  · refine eIF h (fun c3 h => ?_) (fun c3 h => ?_)
    · exact eLeaf (θ := (fun (o : (Int32 × ST)) => (o.1, mkM K R o.2))) h rfl
    · refine eIF h (fun c4 h => ?_) (fun c4 h => ?_)
      · exact eLeaf (θ := (fun (o : (Int32 × ST)) => (o.1, mkM K R o.2))) h rfl
      · refine eIF h (fun c5 h => ?_) (fun c5 h => ?_)
        · exact eLeaf (θ := (fun (o : (Int32 × ST)) => (o.1, mkM K R o.2))) h rfl
        · refine eIF h (fun c6 h => ?_) (fun c6 h => ?_)
          · refine eJN (fun j17 fj17 => ∀ (u7 : Int32), j17 u7 = some o → fj17 u7 = some (o.1, mkM K R o.2)) h ?_ ?_
            · intro u7 h
              refine eLP (fun (s8 : Int32 × Int32 × ST) => (s8.1, s8.2.1, mkM K R s8.2.2)) (fun (e8 : Int32 × ST) => (e8.1, mkM K R e8.2)) h rfl ?_ ?_
              · intro s8 x8 h
                refine eGR (kd_8 hL) (Nat.le_of_ble_eq_true rfl) (rd_told hL) ?_
                refine eGR (kW_0 (layT hL)) (k8W 0 (layT hL)) (rW_0_0 (layT hL)) ?_
                refine eRI (kW_1 (layT hL)) h (fun v9 h => ?_)
                refine eIF h (fun c10 h => ?_) (fun c10 h => ?_)
                · exact eLeaf (θ := (Sum.map (fun (s8 : Int32 × Int32 × ST) => (s8.1, s8.2.1, mkM K R s8.2.2)) (fun (e8 : Int32 × ST) => (e8.1, mkM K R e8.2)))) h rfl
                · refine eIF h (fun c11 h => ?_) (fun c11 h => ?_)
                  · exact eLeaf (θ := (Sum.map (fun (s8 : Int32 × Int32 × ST) => (s8.1, s8.2.1, mkM K R s8.2.2)) (fun (e8 : Int32 × ST) => (e8.1, mkM K R e8.2)))) h rfl
                  · refine eCwrV (kd_8 hL) (Nat.le_of_ble_eq_true rfl) (fun _ hv => E_X11_planCourse_ok hn hL hv) h (fun S13 h => ?_)
                    refine eGR (kd_76 hL) (Nat.le_of_ble_eq_true rfl) (rd_76_0 hL) ?_
                    refine eGR (kd_8 hL) (Nat.le_of_ble_eq_true rfl) (rd_told hL) ?_
                    refine eCV (kW_0 (layT hL)) (k8W 0 (layT hL)) (fun _ hv => E_X10_elder_ok hn hL (layT hL) hv) h (fun v14 h => ?_)
                    refine eCV (kd_77 hL) (Nat.le_of_ble_eq_true rfl) (fun _ hv => E_X3_thingsOf_ok hn hL (layN_77 hL) hv) h (fun v15 h => ?_)
                    refine eCS (fun _ hv => E_J6_bitCount_0f7a4_ok hn hL hv) h (fun v16 h => ?_)
                    exact eLeaf (θ := (Sum.map (fun (s8 : Int32 × Int32 × ST) => (s8.1, s8.2.1, mkM K R s8.2.2)) (fun (e8 : Int32 × ST) => (e8.1, mkM K R e8.2)))) h rfl
              · intro e8 h
                exact eLeaf (θ := (fun (o : (Int32 × ST)) => (o.1, mkM K R o.2))) h rfl
            · intro j17 fj17 Jj17 h
              refine eIF h (fun c18 h => ?_) (fun c18 h => ?_)
              · exact Jj17 _ h
              · exact Jj17 _ h
          · exact eLeaf (θ := (fun (o : (Int32 × ST)) => (o.1, mkM K R o.2))) h rfl
-- OnlyUpward$Rule.gain(LOnlyUpward$World;IIII)I
set_option maxRecDepth 100000 in
set_option maxHeartbeats 4000000 in
def E_X6_gain (n : Nat) (S : ST) (w : Nat) (a2 : Int32) (a3 : Int32) (a4 : Int32) (a5 : Int32) : Option Int32 :=
  (E_X3_has n S 93 a2 a3 a5).bind fun v1 => if v1 = 0 then some (0 : Int32) else (iter (fun (s3 : Int32 × Int32) => (rd (S.1 (w + 1)) 11 (6 : Int32)).bind fun v4 => if v4 ≤ s3.2 then some (.inr s3.1) else (rd (S.1 (w + 7)) 12 s3.2).bind fun v6 => (rd (S.1 (w + 8)) 12 s3.2).bind fun v7 => jn (fun (u8 : Int32) => jn (fun (u9 : Int32) => some (.inl (u9, (s3.2 + (1 : Int32))))) fun j10 => if u8 = 0 then j10 s3.1 else (E_X11_hasBit n S a4 v6).bind fun v12 => if v12 = 0 then j10 s3.1 else (E_X3_has n S 93 v6 a3 (a5 + (1 : Int32))).bind fun v14 => if v14 = 0 then (rd (S.1 (w + 4)) 6 a3).bind fun v16 => j10 (s3.1 + v16) else j10 s3.1) fun j17 => jn (j17 (0 : Int32)) fun j18 => if v7 = a3 then (rd (S.1 (w + 9)) 12 s3.2).bind fun v20 => if v20 ≤ a5 then j18 else j17 (1 : Int32) else j18) n ((0 : Int32), (0 : Int32))).bind fun (e3 : Int32) => some e3
set_option maxRecDepth 100000 in
set_option maxHeartbeats 4000000 in
theorem E_X6_gain_ok {n : Nat} (hn : 30000 ≤ n) {K : AK} {R : Nat → Nat → Option Nat} {S : ST} {w : Nat} {a2 : Int32} {a3 : Int32} {a4 : Int32} {a5 : Int32} {tz en : Nat} (hL : Lay K R tz en) (hw : LW K R w) {o : Int32} (h : E_X6_gain n S w a2 a3 a4 a5 = some o) : F_X6_gain n (mkM K R S) 92 w a2 a3 a4 a5 = some o := by
  unfold E_X6_gain at h
  unfold F_X6_gain
  refine eGR (kd_92 hL) (Nat.le_of_ble_eq_true rfl) (rd_92_0 hL) ?_
  refine eCV (kd_93 hL) (Nat.le_of_ble_eq_true rfl) (fun _ hv => E_X3_has_ok hn hL (layN_93 hL) hv) h (fun v1 h => ?_)
  refine eIF h (fun c2 h => ?_) (fun c2 h => ?_)
  · exact eLeaf (θ := (fun (o : Int32) => o)) h rfl
  · refine eLP (fun (s3 : Int32 × Int32) => s3) (fun (e3 : Int32) => e3) h rfl ?_ ?_
    · intro s3 x3 h
      refine eGR (kW_0 hw) (k8W 0 hw) (rW_0_0 hw) ?_
      refine eRI (kW_1 hw) h (fun v4 h => ?_)
      refine eIF h (fun c5 h => ?_) (fun c5 h => ?_)
      · exact eLeaf (θ := (Sum.map (fun (s3 : Int32 × Int32) => s3) (fun (e3 : Int32) => e3))) h rfl
      · refine eGR (kW_0 hw) (k8W 0 hw) (rW_0_6 hw) ?_
        refine eRI (kW_7 hw) h (fun v6 h => ?_)
        refine eGR (kW_0 hw) (k8W 0 hw) (rW_0_7 hw) ?_
        refine eRI (kW_8 hw) h (fun v7 h => ?_)
        refine eJN (fun j17 fj17 => ∀ (u8 : Int32), j17 u8 = some x3 → fj17 u8 = some (Sum.map (fun (s3 : Int32 × Int32) => s3) (fun (e3 : Int32) => e3) x3)) h ?_ ?_
        · intro u8 h
          refine eJN (fun j10 fj10 => ∀ (u9 : Int32), j10 u9 = some x3 → fj10 u9 = some (Sum.map (fun (s3 : Int32 × Int32) => s3) (fun (e3 : Int32) => e3) x3)) h ?_ ?_
          · intro u9 h
            exact eLeaf (θ := (Sum.map (fun (s3 : Int32 × Int32) => s3) (fun (e3 : Int32) => e3))) h rfl
          · intro j10 fj10 Jj10 h
            refine eIF h (fun c11 h => ?_) (fun c11 h => ?_)
            · exact Jj10 _ h
            · refine eCS (fun _ hv => E_X11_hasBit_ok hn hL hv) h (fun v12 h => ?_)
              refine eIF h (fun c13 h => ?_) (fun c13 h => ?_)
              · exact Jj10 _ h
              · refine eGR (kd_92 hL) (Nat.le_of_ble_eq_true rfl) (rd_92_0 hL) ?_
                refine eCV (kd_93 hL) (Nat.le_of_ble_eq_true rfl) (fun _ hv => E_X3_has_ok hn hL (layN_93 hL) hv) h (fun v14 h => ?_)
                refine eIF h (fun c15 h => ?_) (fun c15 h => ?_)
                · refine eGR (kW_0 hw) (k8W 0 hw) (rW_0_3 hw) ?_
                  refine eRI (kW_4 hw) h (fun v16 h => ?_)
                  exact Jj10 _ h
                · exact Jj10 _ h
        · intro j17 fj17 Jj17 h
          refine eJN (fun j18 fj18 => j18 = some x3 → fj18 = some (Sum.map (fun (s3 : Int32 × Int32) => s3) (fun (e3 : Int32) => e3) x3)) h ?_ ?_
          · intro h
            exact Jj17 _ h
          · intro j18 fj18 Jj18 h
            refine eIF h (fun c19 h => ?_) (fun c19 h => ?_)
            · refine eGR (kW_0 hw) (k8W 0 hw) (rW_0_8 hw) ?_
              refine eRI (kW_9 hw) h (fun v20 h => ?_)
              refine eIF h (fun c21 h => ?_) (fun c21 h => ?_)
              · exact Jj18 h
              · exact Jj17 _ h
            · exact Jj18 h
    · intro e3 h
      exact eLeaf (θ := (fun (o : Int32) => o)) h rfl
-- OnlyUpward$Rule.goOne(LOnlyUpward$World;II)V
set_option maxRecDepth 100000 in
set_option maxHeartbeats 4000000 in
def E_X6_goOne (n : Nat) (S : ST) (w : Nat) (a2 : Int32) (a3 : Int32) : Option ST :=
  (E_X10_placeOf n S w a2 a3).bind fun v1 => (E_X10_sayTo n S w a2 a3).bind fun v2 => jn (fun (u3 : Int32) => (iter (fun (s4 : Int32 × Int32 × Int32 × Int32 × Int32) => (rd (S.1 (w + 1)) 11 (2 : Int32)).bind fun v5 => if v5 ≤ s4.2.2.2.2 then some (.inr (s4.1, s4.2.1, s4.2.2.1, s4.2.2.2.1)) else (E_X6_gain n S w a2 s4.2.2.2.2 u3 a3).bind fun v7 => jn (fun (u8 : Int32) (u9 : Int32) (u10 : Int32) (u11 : Int32) => some (.inl (u8, u9, u10, u11, (s4.2.2.2.2 + (1 : Int32))))) fun j12 => if v7 ≤ s4.1 then j12 s4.1 s4.2.1 s4.2.2.1 s4.2.2.2.1 else j12 v7 u3 s4.2.2.2.2 (1 : Int32)) n ((0 : Int32), (0 : Int32), (0 : Int32), (0 : Int32), (0 : Int32))).bind fun (e4 : Int32 × Int32 × Int32 × Int32) => (iter (fun (s14 : Int32 × Int32 × Int32 × Int32 × Int32) => (rd (S.1 (w + 1)) 11 (7 : Int32)).bind fun v15 => if v15 ≤ s14.2.2.2.2 then some (.inr (s14.1, s14.2.1, s14.2.2.1, s14.2.2.2.1)) else (rd (S.1 (w + 10)) 6 s14.2.2.2.2).bind fun v17 => (E_X10_standers n S w v1 a3).bind fun v18 => (E_X6_gain n S w a2 v17 v18 a3).bind fun v19 => jn (fun (u20 : Int32) (u21 : Int32) (u22 : Int32) (u23 : Int32) => some (.inl (u20, u21, u22, u23, (s14.2.2.2.2 + (1 : Int32))))) fun j24 => if v19 ≤ s14.1 then j24 s14.1 s14.2.1 s14.2.2.1 s14.2.2.2.1 else (E_X10_standers n S w v1 a3).bind fun v26 => (rd (S.1 (w + 10)) 6 s14.2.2.2.2).bind fun v27 => (rd (S.1 (w + 11)) 6 s14.2.2.2.2).bind fun v28 => j24 v19 v26 v27 v28) n (e4.1, e4.2.1, e4.2.2.1, e4.2.2.2, (0 : Int32))).bind fun (e14 : Int32 × Int32 × Int32 × Int32) => if e14.1 ≤ 0 then some S else (E_X3_learn n S 93 e14.2.1 e14.2.2.1 (a3 + (1 : Int32))).bind fun S31 => lets (upI S31 92 1 ((S31.1 92 1) + e14.2.2.2)) fun (S32 : ST) => lets (upI S32 92 2 ((S32.1 92 2) + (1 : Int32))) fun (S33 : ST) => some S33) fun j34 => if v2 = 0 then j34 (0 : Int32) else (E_X10_hearers n S w v1 a3).bind fun v36 => j34 v36
set_option maxRecDepth 100000 in
set_option maxHeartbeats 4000000 in
theorem E_X6_goOne_ok {n : Nat} (hn : 30000 ≤ n) {K : AK} {R : Nat → Nat → Option Nat} {S : ST} {w : Nat} {a2 : Int32} {a3 : Int32} {tz en : Nat} (hL : Lay K R tz en) (hw : LW K R w) {o : ST} (h : E_X6_goOne n S w a2 a3 = some o) : F_X6_goOne n (mkM K R S) 92 w a2 a3 = some (mkM K R o) := by
  unfold E_X6_goOne at h
  unfold F_X6_goOne
  refine eCV (kW_0 hw) (k8W 0 hw) (fun _ hv => E_X10_placeOf_ok hn hL hw hv) h (fun v1 h => ?_)
  refine eCV (kW_0 hw) (k8W 0 hw) (fun _ hv => E_X10_sayTo_ok hn hL hw hv) h (fun v2 h => ?_)
  refine eJN (fun j34 fj34 => ∀ (u3 : Int32), j34 u3 = some o → fj34 u3 = some (mkM K R o)) h ?_ ?_
  · intro u3 h
    refine eLP (fun (s4 : Int32 × Int32 × Int32 × Int32 × Int32) => s4) (fun (e4 : Int32 × Int32 × Int32 × Int32) => e4) h rfl ?_ ?_
    · intro s4 x4 h
      refine eGR (kW_0 hw) (k8W 0 hw) (rW_0_0 hw) ?_
      refine eRI (kW_1 hw) h (fun v5 h => ?_)
      refine eIF h (fun c6 h => ?_) (fun c6 h => ?_)
      · exact eLeaf (θ := (Sum.map (fun (s4 : Int32 × Int32 × Int32 × Int32 × Int32) => s4) (fun (e4 : Int32 × Int32 × Int32 × Int32) => e4))) h rfl
      · refine eCV (kd_92 hL) (Nat.le_of_ble_eq_true rfl) (fun _ hv => E_X6_gain_ok hn hL hw hv) h (fun v7 h => ?_)
        refine eJN (fun j12 fj12 => ∀ (u8 : Int32) (u9 : Int32) (u10 : Int32) (u11 : Int32), j12 u8 u9 u10 u11 = some x4 → fj12 u8 u9 u10 u11 = some (Sum.map (fun (s4 : Int32 × Int32 × Int32 × Int32 × Int32) => s4) (fun (e4 : Int32 × Int32 × Int32 × Int32) => e4) x4)) h ?_ ?_
        · intro u8 u9 u10 u11 h
          exact eLeaf (θ := (Sum.map (fun (s4 : Int32 × Int32 × Int32 × Int32 × Int32) => s4) (fun (e4 : Int32 × Int32 × Int32 × Int32) => e4))) h rfl
        · intro j12 fj12 Jj12 h
          refine eIF h (fun c13 h => ?_) (fun c13 h => ?_)
          · exact Jj12 _ _ _ _ h
          · exact Jj12 _ _ _ _ h
    · intro e4 h
      refine eLP (fun (s14 : Int32 × Int32 × Int32 × Int32 × Int32) => s14) (fun (e14 : Int32 × Int32 × Int32 × Int32) => e14) h rfl ?_ ?_
      · intro s14 x14 h
        refine eGR (kW_0 hw) (k8W 0 hw) (rW_0_0 hw) ?_
        refine eRI (kW_1 hw) h (fun v15 h => ?_)
        refine eIF h (fun c16 h => ?_) (fun c16 h => ?_)
        · exact eLeaf (θ := (Sum.map (fun (s14 : Int32 × Int32 × Int32 × Int32 × Int32) => s14) (fun (e14 : Int32 × Int32 × Int32 × Int32) => e14))) h rfl
        · refine eGR (kW_0 hw) (k8W 0 hw) (rW_0_9 hw) ?_
          refine eRI (kW_10 hw) h (fun v17 h => ?_)
          refine eCV (kW_0 hw) (k8W 0 hw) (fun _ hv => E_X10_standers_ok hn hL hw hv) h (fun v18 h => ?_)
          refine eCV (kd_92 hL) (Nat.le_of_ble_eq_true rfl) (fun _ hv => E_X6_gain_ok hn hL hw hv) h (fun v19 h => ?_)
          refine eJN (fun j24 fj24 => ∀ (u20 : Int32) (u21 : Int32) (u22 : Int32) (u23 : Int32), j24 u20 u21 u22 u23 = some x14 → fj24 u20 u21 u22 u23 = some (Sum.map (fun (s14 : Int32 × Int32 × Int32 × Int32 × Int32) => s14) (fun (e14 : Int32 × Int32 × Int32 × Int32) => e14) x14)) h ?_ ?_
          · intro u20 u21 u22 u23 h
            exact eLeaf (θ := (Sum.map (fun (s14 : Int32 × Int32 × Int32 × Int32 × Int32) => s14) (fun (e14 : Int32 × Int32 × Int32 × Int32) => e14))) h rfl
          · intro j24 fj24 Jj24 h
            refine eIF h (fun c25 h => ?_) (fun c25 h => ?_)
            · exact Jj24 _ _ _ _ h
            · refine eCV (kW_0 hw) (k8W 0 hw) (fun _ hv => E_X10_standers_ok hn hL hw hv) h (fun v26 h => ?_)
              refine eGR (kW_0 hw) (k8W 0 hw) (rW_0_9 hw) ?_
              refine eRI (kW_10 hw) h (fun v27 h => ?_)
              refine eGR (kW_0 hw) (k8W 0 hw) (rW_0_10 hw) ?_
              refine eRI (kW_11 hw) h (fun v28 h => ?_)
              exact Jj24 _ _ _ _ h
      · intro e14 h
        refine eIF h (fun c29 h => ?_) (fun c29 h => ?_)
        · exact eLeaf (θ := (fun (o : ST) => (mkM K R o))) h rfl
        · refine eGR (kd_92 hL) (Nat.le_of_ble_eq_true rfl) (rd_92_0 hL) ?_
          refine eCwV (kd_93 hL) (Nat.le_of_ble_eq_true rfl) (fun _ hv => E_X3_learn_ok hn hL (layN_93 hL) hv) h (fun S31 h => ?_)
          refine eGI (kd_92 hL) (Nat.le_of_ble_eq_true rfl) ?_
          refine ePI (kd_92 hL) (Nat.le_of_ble_eq_true rfl) h (fun S32 h => ?_)
          refine eGI (kd_92 hL) (Nat.le_of_ble_eq_true rfl) ?_
          refine ePI (kd_92 hL) (Nat.le_of_ble_eq_true rfl) h (fun S33 h => ?_)
          exact eLeaf (θ := (fun (o : ST) => (mkM K R o))) h rfl
  · intro j34 fj34 Jj34 h
    refine eIF h (fun c35 h => ?_) (fun c35 h => ?_)
    · exact Jj34 _ h
    · refine eCV (kW_0 hw) (k8W 0 hw) (fun _ hv => E_X10_hearers_ok hn hL hw hv) h (fun v36 h => ?_)
      exact Jj34 _ h
-- OnlyUpward$Rule.go(LOnlyUpward$World;)V
set_option maxRecDepth 100000 in
set_option maxHeartbeats 4000000 in
def E_X6_go (n : Nat) (S : ST) (w : Nat) : Option ST :=
  if (S.1 92 3) = 0 then lets (upI S 92 3 (1 : Int32)) fun (S2 : ST) => (E_X3_begin n S2 93 w).bind fun S4 => lets (upI S4 92 1 (0 : Int32)) fun (S5 : ST) => lets (upI S5 92 2 (0 : Int32)) fun (S6 : ST) => (iter (fun (s7 : Int32 × ST) => if (24 : Int32) ≤ s7.1 then some (.inr s7.2) else (iter (fun (s9 : Int32 × ST) => (rd (s9.2.1 (w + 1)) 11 (1 : Int32)).bind fun v10 => if v10 ≤ s9.1 then some (.inr s9.2) else (E_X10_elder n s9.2 w s9.1 s7.1).bind fun v12 => (E_X6_goOne n s9.2 w v12 s7.1).bind fun S14 => some (.inl ((s9.1 + (1 : Int32)), S14))) n ((0 : Int32), s7.2)).bind fun (e9 : ST) => some (.inl ((s7.1 + (1 : Int32)), e9))) n ((0 : Int32), S6)).bind fun (e7 : ST) => some e7 else some S
set_option maxRecDepth 100000 in
set_option maxHeartbeats 4000000 in
theorem E_X6_go_ok {n : Nat} (hn : 30000 ≤ n) {K : AK} {R : Nat → Nat → Option Nat} {S : ST} {w : Nat} {tz en : Nat} (hL : Lay K R tz en) (hw : LW K R w) {o : ST} (h : E_X6_go n S w = some o) : F_X6_go n (mkM K R S) 92 w = some (mkM K R o) := by
  unfold E_X6_go at h
  unfold F_X6_go
  refine eGI (kd_92 hL) (Nat.le_of_ble_eq_true rfl) ?_
  refine eIF h (fun c1 h => ?_) (fun c1 h => ?_)
  · refine ePZ (kd_92 hL) (Nat.le_of_ble_eq_true rfl) (by decide) h (fun S2 h => ?_)
    refine eGR (kd_92 hL) (Nat.le_of_ble_eq_true rfl) (rd_92_0 hL) ?_
    refine eCwV (kd_93 hL) (Nat.le_of_ble_eq_true rfl) (fun _ hv => E_X3_begin_ok hn hL (layN_93 hL) hw hv) h (fun S4 h => ?_)
    refine ePI (kd_92 hL) (Nat.le_of_ble_eq_true rfl) h (fun S5 h => ?_)
    refine ePI (kd_92 hL) (Nat.le_of_ble_eq_true rfl) h (fun S6 h => ?_)
    refine eLP (fun (s7 : Int32 × ST) => (s7.1, mkM K R s7.2)) (fun (e7 : ST) => mkM K R e7) h rfl ?_ ?_
    · intro s7 x7 h
      refine eIF h (fun c8 h => ?_) (fun c8 h => ?_)
      · exact eLeaf (θ := (Sum.map (fun (s7 : Int32 × ST) => (s7.1, mkM K R s7.2)) (fun (e7 : ST) => mkM K R e7))) h rfl
      · refine eLP (fun (s9 : Int32 × ST) => (s9.1, mkM K R s9.2)) (fun (e9 : ST) => mkM K R e9) h rfl ?_ ?_
        · intro s9 x9 h
          refine eGR (kW_0 hw) (k8W 0 hw) (rW_0_0 hw) ?_
          refine eRI (kW_1 hw) h (fun v10 h => ?_)
          refine eIF h (fun c11 h => ?_) (fun c11 h => ?_)
          · exact eLeaf (θ := (Sum.map (fun (s9 : Int32 × ST) => (s9.1, mkM K R s9.2)) (fun (e9 : ST) => mkM K R e9))) h rfl
          · refine eCV (kW_0 hw) (k8W 0 hw) (fun _ hv => E_X10_elder_ok hn hL hw hv) h (fun v12 h => ?_)
            refine eCwV (kd_92 hL) (Nat.le_of_ble_eq_true rfl) (fun _ hv => E_X6_goOne_ok hn hL hw hv) h (fun S14 h => ?_)
            exact eLeaf (θ := (Sum.map (fun (s9 : Int32 × ST) => (s9.1, mkM K R s9.2)) (fun (e9 : ST) => mkM K R e9))) h rfl
        · intro e9 h
          exact eLeaf (θ := (Sum.map (fun (s7 : Int32 × ST) => (s7.1, mkM K R s7.2)) (fun (e7 : ST) => mkM K R e7))) h rfl
    · intro e7 h
      exact eLeaf (θ := (fun (o : ST) => (mkM K R o))) h rfl
  · exact eLeaf (θ := (fun (o : ST) => (mkM K R o))) h rfl
-- OnlyUpward.rule(I)I
set_option maxRecDepth 100000 in
set_option maxHeartbeats 4000000 in
def E_X11_rule (n : Nat) (S : ST) (tw : Nat) (a1 : Int32) : Option (Int32 × ST) :=
  if a1 < 0 then some ((-1 : Int32), S) else if a1 ≤ (2 : Int32) then (E_X6_go n S tw).bind fun S4 => if a1 = 0 then (E_X3_worthMissed n S4 93 tw).bind fun v6 => some (v6, S4) else if a1 = (1 : Int32) then some ((S4.1 92 1), S4) else some ((S4.1 92 2), S4) else some ((-1 : Int32), S)
set_option maxRecDepth 100000 in
set_option maxHeartbeats 4000000 in
theorem E_X11_rule_ok {n : Nat} (hn : 30000 ≤ n) {K : AK} {R : Nat → Nat → Option Nat} {S : ST} {a1 : Int32} {tw en : Nat} (hL : Lay K R tw en) {o : (Int32 × ST)} (h : E_X11_rule n S tw a1 = some o) : F_X11_rule n (mkM K R S) 8 a1 = some (o.1, mkM K R o.2) := by
  unfold E_X11_rule at h
  unfold F_X11_rule
  refine eIF h (fun c1 h => ?_) (fun c1 h => ?_)
  · exact eLeaf (θ := (fun (o : (Int32 × ST)) => (o.1, mkM K R o.2))) h rfl
  · refine eIF h (fun c2 h => ?_) (fun c2 h => ?_)
    · refine eGR (kd_8 hL) (Nat.le_of_ble_eq_true rfl) (rd_8_14 hL) ?_
      refine eGR (kd_8 hL) (Nat.le_of_ble_eq_true rfl) (rd_told hL) ?_
      refine eCwV (kd_92 hL) (Nat.le_of_ble_eq_true rfl) (fun _ hv => E_X6_go_ok hn hL (layT hL) hv) h (fun S4 h => ?_)
      refine eIF h (fun c5 h => ?_) (fun c5 h => ?_)
      · refine eGR (kd_8 hL) (Nat.le_of_ble_eq_true rfl) (rd_8_14 hL) ?_
        refine eGR (kd_92 hL) (Nat.le_of_ble_eq_true rfl) (rd_92_0 hL) ?_
        refine eGR (kd_8 hL) (Nat.le_of_ble_eq_true rfl) (rd_told hL) ?_
        refine eCV (kd_93 hL) (Nat.le_of_ble_eq_true rfl) (fun _ hv => E_X3_worthMissed_ok hn hL (layN_93 hL) (layT hL) hv) h (fun v6 h => ?_)
        exact eLeaf (θ := (fun (o : (Int32 × ST)) => (o.1, mkM K R o.2))) h rfl
      · refine eIF h (fun c7 h => ?_) (fun c7 h => ?_)
        · refine eGR (kd_8 hL) (Nat.le_of_ble_eq_true rfl) (rd_8_14 hL) ?_
          refine eGI (kd_92 hL) (Nat.le_of_ble_eq_true rfl) ?_
          exact eLeaf (θ := (fun (o : (Int32 × ST)) => (o.1, mkM K R o.2))) h rfl
        · refine eGR (kd_8 hL) (Nat.le_of_ble_eq_true rfl) (rd_8_14 hL) ?_
          refine eGI (kd_92 hL) (Nat.le_of_ble_eq_true rfl) ?_
          exact eLeaf (θ := (fun (o : (Int32 × ST)) => (o.1, mkM K R o.2))) h rfl
    · exact eLeaf (θ := (fun (o : (Int32 × ST)) => (o.1, mkM K R o.2))) h rfl
-- OnlyUpward.ruled(II)I
set_option maxRecDepth 100000 in
set_option maxHeartbeats 4000000 in
def E_X11_ruled (n : Nat) (S : ST) (tw : Nat) (a1 : Int32) (a2 : Int32) : Option (Int32 × ST) :=
  (E_X11_isOne n S tw (1 : Int32) a1).bind fun v1 => if v1 = 0 then some ((-1 : Int32), S) else (E_X11_isHourOrEnd n S a2).bind fun v3 => if v3 = 0 then some ((-1 : Int32), S) else (E_X6_go n S tw).bind fun S6 => (E_X3_thingsOf n S6 93 a1 a2).bind fun v7 => some (v7, S6)
set_option maxRecDepth 100000 in
set_option maxHeartbeats 4000000 in
theorem E_X11_ruled_ok {n : Nat} (hn : 30000 ≤ n) {K : AK} {R : Nat → Nat → Option Nat} {S : ST} {a1 : Int32} {a2 : Int32} {tw en : Nat} (hL : Lay K R tw en) {o : (Int32 × ST)} (h : E_X11_ruled n S tw a1 a2 = some o) : F_X11_ruled n (mkM K R S) 8 a1 a2 = some (o.1, mkM K R o.2) := by
  unfold E_X11_ruled at h
  unfold F_X11_ruled
  refine eCV (kd_8 hL) (Nat.le_of_ble_eq_true rfl) (fun _ hv => E_X11_isOne_ok hn hL hv) h (fun v1 h => ?_)
  refine eIF h (fun c2 h => ?_) (fun c2 h => ?_)
  · exact eLeaf (θ := (fun (o : (Int32 × ST)) => (o.1, mkM K R o.2))) h rfl
  · refine eCS (fun _ hv => E_X11_isHourOrEnd_ok hn hL hv) h (fun v3 h => ?_)
    refine eIF h (fun c4 h => ?_) (fun c4 h => ?_)
    · exact eLeaf (θ := (fun (o : (Int32 × ST)) => (o.1, mkM K R o.2))) h rfl
    · refine eGR (kd_8 hL) (Nat.le_of_ble_eq_true rfl) (rd_8_14 hL) ?_
      refine eGR (kd_8 hL) (Nat.le_of_ble_eq_true rfl) (rd_told hL) ?_
      refine eCwV (kd_92 hL) (Nat.le_of_ble_eq_true rfl) (fun _ hv => E_X6_go_ok hn hL (layT hL) hv) h (fun S6 h => ?_)
      refine eGR (kd_8 hL) (Nat.le_of_ble_eq_true rfl) (rd_8_14 hL) ?_
      refine eGR (kd_92 hL) (Nat.le_of_ble_eq_true rfl) (rd_92_0 hL) ?_
      refine eCV (kd_93 hL) (Nat.le_of_ble_eq_true rfl) (fun _ hv => E_X3_thingsOf_ok hn hL (layN_93 hL) hv) h (fun v7 h => ?_)
      exact eLeaf (θ := (fun (o : (Int32 × ST)) => (o.1, mkM K R o.2))) h rfl
-- OnlyUpward.isFrail(I)Z
set_option maxRecDepth 100000 in
set_option maxHeartbeats 4000000 in
def E_X11_isFrail (n : Nat) (S : ST) (a0 : Int32) : Option Int32 :=
  if a0 < 0 then some (0 : Int32) else if (100 : Int32) < a0 then some (0 : Int32) else some (1 : Int32)
set_option maxRecDepth 100000 in
set_option maxHeartbeats 4000000 in
theorem E_X11_isFrail_ok {n : Nat} (hn : 30000 ≤ n) {K : AK} {R : Nat → Nat → Option Nat} {S : ST} {a0 : Int32} {tz en : Nat} (hL : Lay K R tz en) {o : Int32} (h : E_X11_isFrail n S a0 = some o) : F_X11_isFrail n (mkM K R S) a0 = some o := by
  unfold E_X11_isFrail at h
  unfold F_X11_isFrail
  refine eIF h (fun c1 h => ?_) (fun c1 h => ?_)
  · exact eLeaf (θ := (fun (o : Int32) => o)) h rfl
  · refine eIF h (fun c2 h => ?_) (fun c2 h => ?_)
    · exact eLeaf (θ := (fun (o : Int32) => o)) h rfl
    · exact eLeaf (θ := (fun (o : Int32) => o)) h rfl
-- OnlyUpward.mix(II)I
set_option maxRecDepth 100000 in
set_option maxHeartbeats 4000000 in
def E_X11_mix (n : Nat) (S : ST) (a0 : Int32) (a1 : Int32) : Option Int32 :=
  lets (((a0 ^^^ a1) * (1103515245 : Int32)) + (12345 : Int32)) fun (w1 : Int32) => some (w1 ^^^ (ush w1 (15 : Int32)))
set_option maxRecDepth 100000 in
set_option maxHeartbeats 4000000 in
theorem E_X11_mix_ok {n : Nat} (hn : 30000 ≤ n) {K : AK} {R : Nat → Nat → Option Nat} {S : ST} {a0 : Int32} {a1 : Int32} {tz en : Nat} (hL : Lay K R tz en) {o : Int32} (h : E_X11_mix n S a0 a1 = some o) : F_X11_mix n (mkM K R S) a0 a1 = some o := by
  unfold E_X11_mix at h
  unfold F_X11_mix
  refine eLT h (fun w1 h => ?_)
  exact eLeaf (θ := (fun (o : Int32) => o)) h rfl
-- OnlyUpward.lot(III)I
set_option maxRecDepth 100000 in
set_option maxHeartbeats 4000000 in
def E_X11_lot (n : Nat) (S : ST) (a0 : Int32) (a1 : Int32) (a2 : Int32) : Option Int32 :=
  (E_X11_mix n S a1 (17 : Int32)).bind fun v1 => (E_X11_mix n S v1 a2).bind fun v2 => if 0 < a0 then gd (¬ a0 = 0) (some ((ush v2 (1 : Int32)) - (ush v2 (1 : Int32)) / a0 * a0)) else some (0 : Int32)
set_option maxRecDepth 100000 in
set_option maxHeartbeats 4000000 in
theorem E_X11_lot_ok {n : Nat} (hn : 30000 ≤ n) {K : AK} {R : Nat → Nat → Option Nat} {S : ST} {a0 : Int32} {a1 : Int32} {a2 : Int32} {tz en : Nat} (hL : Lay K R tz en) {o : Int32} (h : E_X11_lot n S a0 a1 a2 = some o) : F_X11_lot n (mkM K R S) a0 a1 a2 = some o := by
  unfold E_X11_lot at h
  unfold F_X11_lot
  refine eCS (fun _ hv => E_X11_mix_ok hn hL hv) h (fun v1 h => ?_)
  refine eCS (fun _ hv => E_X11_mix_ok hn hL hv) h (fun v2 h => ?_)
  refine eIF h (fun c3 h => ?_) (fun c3 h => ?_)
  · refine eGD h (fun c4 h => ?_)
    exact eLeaf (θ := (fun (o : Int32) => o)) h rfl
  · exact eLeaf (θ := (fun (o : Int32) => o)) h rfl
-- OnlyUpward$Course.drawDeaths(III)V
set_option maxRecDepth 100000 in
set_option maxHeartbeats 4000000 in
def E_X1_drawDeaths (n : Nat) (S : ST) (c : Nat) (a1 : Int32) (a2 : Int32) (a3 : Int32) : Option ST :=
  (E_X1_nobodyDies n S c).bind fun S2 => (iter (fun (s3 : Int32 × ST) => if a3 ≤ s3.1 then some (.inr s3.2) else if (10 : Int32) ≤ s3.1 then some (.inr s3.2) else (iter (fun (s6 : Int32 × ST) => if (24 : Int32) ≤ s6.1 then some (.inr s6.2) else (rd (s6.2.1 (c + 5)) 10 s3.1).bind fun v8 => if v8 = (99 : Int32) then (E_X11_lot n s6.2 (100 : Int32) a1 (((100 : Int32) * s6.1) + s3.1)).bind fun v10 => jn (fun (S11 : ST) => some (.inl ((s6.1 + (1 : Int32)), S11))) fun j12 => if a2 ≤ v10 then j12 s6.2 else (wr s6.2 (c + 5) 10 s3.1 s6.1).bind fun S14 => j12 S14 else some (.inr s6.2)) n ((1 : Int32), s3.2)).bind fun (e6 : ST) => some (.inl ((s3.1 + (1 : Int32)), e6))) n ((0 : Int32), S2)).bind fun (e3 : ST) => some e3
set_option maxRecDepth 100000 in
set_option maxHeartbeats 4000000 in
theorem E_X1_drawDeaths_ok {n : Nat} (hn : 30000 ≤ n) {K : AK} {R : Nat → Nat → Option Nat} {S : ST} {c : Nat} {a1 : Int32} {a2 : Int32} {a3 : Int32} {tz en : Nat} (hL : Lay K R tz en) (hc : LC K R c) {o : ST} (h : E_X1_drawDeaths n S c a1 a2 a3 = some o) : F_X1_drawDeaths n (mkM K R S) c a1 a2 a3 = some (mkM K R o) := by
  unfold E_X1_drawDeaths at h
  unfold F_X1_drawDeaths
  refine eCwV (kC_0 hc) (k8C 0 hc) (fun _ hv => E_X1_nobodyDies_ok hn hL hc hv) h (fun S2 h => ?_)
  refine eLP (fun (s3 : Int32 × ST) => (s3.1, mkM K R s3.2)) (fun (e3 : ST) => mkM K R e3) h rfl ?_ ?_
  · intro s3 x3 h
    refine eIF h (fun c4 h => ?_) (fun c4 h => ?_)
    · exact eLeaf (θ := (Sum.map (fun (s3 : Int32 × ST) => (s3.1, mkM K R s3.2)) (fun (e3 : ST) => mkM K R e3))) h rfl
    · refine eIF h (fun c5 h => ?_) (fun c5 h => ?_)
      · exact eLeaf (θ := (Sum.map (fun (s3 : Int32 × ST) => (s3.1, mkM K R s3.2)) (fun (e3 : ST) => mkM K R e3))) h rfl
      · refine eLP (fun (s6 : Int32 × ST) => (s6.1, mkM K R s6.2)) (fun (e6 : ST) => mkM K R e6) h rfl ?_ ?_
        · intro s6 x6 h
          refine eIF h (fun c7 h => ?_) (fun c7 h => ?_)
          · exact eLeaf (θ := (Sum.map (fun (s6 : Int32 × ST) => (s6.1, mkM K R s6.2)) (fun (e6 : ST) => mkM K R e6))) h rfl
          · refine eGR (kC_0 hc) (k8C 0 hc) (rC_0_3 hc) ?_
            refine eRI (kC_5 hc) h (fun v8 h => ?_)
            refine eIF h (fun c9 h => ?_) (fun c9 h => ?_)
            · refine eCS (fun _ hv => E_X11_lot_ok hn hL hv) h (fun v10 h => ?_)
              refine eJN (fun j12 fj12 => ∀ (S11 : ST), j12 S11 = some x6 → fj12 (mkM K R S11) = some (Sum.map (fun (s6 : Int32 × ST) => (s6.1, mkM K R s6.2)) (fun (e6 : ST) => mkM K R e6) x6)) h ?_ ?_
              · intro S11 h
                exact eLeaf (θ := (Sum.map (fun (s6 : Int32 × ST) => (s6.1, mkM K R s6.2)) (fun (e6 : ST) => mkM K R e6))) h rfl
              · intro j12 fj12 Jj12 h
                refine eIF h (fun c13 h => ?_) (fun c13 h => ?_)
                · exact Jj12 _ h
                · refine eGR (kC_0 hc) (k8C 0 hc) (rC_0_3 hc) ?_
                  refine eWI (kC_5 hc) (k8C 5 hc) h (fun S14 h => ?_)
                  exact Jj12 _ h
            · exact eLeaf (θ := (Sum.map (fun (s6 : Int32 × ST) => (s6.1, mkM K R s6.2)) (fun (e6 : ST) => mkM K R e6))) h rfl
        · intro e6 h
          exact eLeaf (θ := (Sum.map (fun (s3 : Int32 × ST) => (s3.1, mkM K R s3.2)) (fun (e3 : ST) => mkM K R e3))) h rfl
  · intro e3 h
    exact eLeaf (θ := (fun (o : ST) => (mkM K R o))) h rfl
-- OnlyUpward.goDay(II)V
set_option maxRecDepth 100000 in
set_option maxHeartbeats 4000000 in
def E_X11_goDay (n : Nat) (S : ST) (tw : Nat) (a1 : Int32) (a2 : Int32) : Option ST :=
  (rd (S.1 (tw + 1)) 11 (1 : Int32)).bind fun v1 => (E_X1_drawDeaths n S 82 a1 a2 v1).bind fun S3 => (E_X1_go n S3 82 tw).bind fun S5 => some S5
set_option maxRecDepth 100000 in
set_option maxHeartbeats 4000000 in
theorem E_X11_goDay_ok {n : Nat} (hn : 30000 ≤ n) {K : AK} {R : Nat → Nat → Option Nat} {S : ST} {a1 : Int32} {a2 : Int32} {tw en : Nat} (hL : Lay K R tw en) {o : ST} (h : E_X11_goDay n S tw a1 a2 = some o) : F_X11_goDay n (mkM K R S) 8 a1 a2 = some (mkM K R o) := by
  unfold E_X11_goDay at h
  unfold F_X11_goDay
  refine eGR (kd_8 hL) (Nat.le_of_ble_eq_true rfl) (rd_8_11 hL) ?_
  refine eGR (kd_8 hL) (Nat.le_of_ble_eq_true rfl) (rd_told hL) ?_
  refine eGR (kW_0 (layT hL)) (k8W 0 (layT hL)) (rW_0_0 (layT hL)) ?_
  refine eRI (kW_1 (layT hL)) h (fun v1 h => ?_)
  refine eCwV (kd_82 hL) (Nat.le_of_ble_eq_true rfl) (fun _ hv => E_X1_drawDeaths_ok hn hL (layC_82 hL) hv) h (fun S3 h => ?_)
  refine eGR (kd_8 hL) (Nat.le_of_ble_eq_true rfl) (rd_8_11 hL) ?_
  refine eGR (kd_8 hL) (Nat.le_of_ble_eq_true rfl) (rd_told hL) ?_
  refine eGR (kd_8 hL) (Nat.le_of_ble_eq_true rfl) (rd_8_8 hL) ?_
  refine eCwV (kd_82 hL) (Nat.le_of_ble_eq_true rfl) (fun _ hv => E_X1_go_ok hn hL (layC_82 hL) (layT hL) hv) h (fun S5 h => ?_)
  exact eLeaf (θ := (fun (o : ST) => (mkM K R o))) h rfl
-- OnlyUpward$Course.goneThings(LOnlyUpward$World;)I
set_option maxRecDepth 100000 in
set_option maxHeartbeats 4000000 in
def E_X1_goneThings (n : Nat) (S : ST) (c : Nat) (w : Nat) : Option Int32 :=
  (E_X1_aliveAt n S c w (23 : Int32)).bind fun v1 => (iter (fun (s2 : Int32 × Int32 × Int32) => (rd (S.1 (w + 1)) 11 (1 : Int32)).bind fun v3 => if v3 ≤ s2.2.2 then some (.inr (s2.1, s2.2.1)) else (E_X3_thingsOf n S (c + 1) s2.2.2 (24 : Int32)).bind fun v5 => (E_X11_hasBit n S v1 s2.2.2).bind fun v6 => jn (fun (u7 : Int32) => some (.inl ((s2.1 ||| v5), (s2.2.1 ||| u7), (s2.2.2 + (1 : Int32))))) fun j8 => if v6 = 0 then j8 (0 : Int32) else j8 v5) n ((0 : Int32), (0 : Int32), (0 : Int32))).bind fun (e2 : Int32 × Int32) => some (e2.1 &&& (e2.2 ^^^ (-1 : Int32)))
set_option maxRecDepth 100000 in
set_option maxHeartbeats 4000000 in
theorem E_X1_goneThings_ok {n : Nat} (hn : 30000 ≤ n) {K : AK} {R : Nat → Nat → Option Nat} {S : ST} {c : Nat} {w : Nat} {tz en : Nat} (hL : Lay K R tz en) (hc : LC K R c) (hw : LW K R w) {o : Int32} (h : E_X1_goneThings n S c w = some o) : F_X1_goneThings n (mkM K R S) c w = some o := by
  unfold E_X1_goneThings at h
  unfold F_X1_goneThings
  refine eCV (kC_0 hc) (k8C 0 hc) (fun _ hv => E_X1_aliveAt_ok hn hL hc hw hv) h (fun v1 h => ?_)
  refine eLP (fun (s2 : Int32 × Int32 × Int32) => s2) (fun (e2 : Int32 × Int32) => e2) h rfl ?_ ?_
  · intro s2 x2 h
    refine eGR (kW_0 hw) (k8W 0 hw) (rW_0_0 hw) ?_
    refine eRI (kW_1 hw) h (fun v3 h => ?_)
    refine eIF h (fun c4 h => ?_) (fun c4 h => ?_)
    · exact eLeaf (θ := (Sum.map (fun (s2 : Int32 × Int32 × Int32) => s2) (fun (e2 : Int32 × Int32) => e2))) h rfl
    · refine eGR (kC_0 hc) (k8C 0 hc) (rC_0_0 hc) ?_
      refine eCV (kC_1 hc) (k8C 1 hc) (fun _ hv => E_X3_thingsOf_ok hn hL (LC_LN hc) hv) h (fun v5 h => ?_)
      refine eCS (fun _ hv => E_X11_hasBit_ok hn hL hv) h (fun v6 h => ?_)
      refine eJN (fun j8 fj8 => ∀ (u7 : Int32), j8 u7 = some x2 → fj8 u7 = some (Sum.map (fun (s2 : Int32 × Int32 × Int32) => s2) (fun (e2 : Int32 × Int32) => e2) x2)) h ?_ ?_
      · intro u7 h
        exact eLeaf (θ := (Sum.map (fun (s2 : Int32 × Int32 × Int32) => s2) (fun (e2 : Int32 × Int32) => e2))) h rfl
      · intro j8 fj8 Jj8 h
        refine eIF h (fun c9 h => ?_) (fun c9 h => ?_)
        · exact Jj8 _ h
        · exact Jj8 _ h
  · intro e2 h
    exact eLeaf (θ := (fun (o : Int32) => o)) h rfl
-- OnlyUpward.day(III)I
set_option maxRecDepth 100000 in
set_option maxHeartbeats 4000000 in
def E_X11_day (n : Nat) (S : ST) (tw : Nat) (a1 : Int32) (a2 : Int32) (a3 : Int32) : Option (Int32 × ST) :=
  (E_X11_isFrail n S a2).bind fun v1 => if v1 = 0 then some ((-1 : Int32), S) else if a3 < 0 then some ((-1 : Int32), S) else if a3 ≤ (3 : Int32) then (E_X11_goDay n S tw a1 a2).bind fun S6 => if a3 = (0 : Int32) then (E_X1_aliveAt n S6 82 tw (23 : Int32)).bind fun v8 => some (v8, S6) else if a3 = (1 : Int32) then (E_X1_goneThings n S6 82 tw).bind fun v10 => some (v10, S6) else if a3 = (2 : Int32) then (E_X3_worthMissed n S6 83 tw).bind fun v12 => some (v12, S6) else some ((S6.1 82 5), S6) else some ((-1 : Int32), S)
set_option maxRecDepth 100000 in
set_option maxHeartbeats 4000000 in
theorem E_X11_day_ok {n : Nat} (hn : 30000 ≤ n) {K : AK} {R : Nat → Nat → Option Nat} {S : ST} {a1 : Int32} {a2 : Int32} {a3 : Int32} {tw en : Nat} (hL : Lay K R tw en) {o : (Int32 × ST)} (h : E_X11_day n S tw a1 a2 a3 = some o) : F_X11_day n (mkM K R S) 8 a1 a2 a3 = some (o.1, mkM K R o.2) := by
  unfold E_X11_day at h
  unfold F_X11_day
  refine eCS (fun _ hv => E_X11_isFrail_ok hn hL hv) h (fun v1 h => ?_)
  refine eIF h (fun c2 h => ?_) (fun c2 h => ?_)
  · exact eLeaf (θ := (fun (o : (Int32 × ST)) => (o.1, mkM K R o.2))) h rfl
  · refine eIF h (fun c3 h => ?_) (fun c3 h => ?_)
    · exact eLeaf (θ := (fun (o : (Int32 × ST)) => (o.1, mkM K R o.2))) h rfl
    · refine eIF h (fun c4 h => ?_) (fun c4 h => ?_)
      · refine eCwV (kd_8 hL) (Nat.le_of_ble_eq_true rfl) (fun _ hv => E_X11_goDay_ok hn hL hv) h (fun S6 h => ?_)
        refine eIF h (fun c7 h => ?_) (fun c7 h => ?_)
        · refine eGR (kd_8 hL) (Nat.le_of_ble_eq_true rfl) (rd_8_11 hL) ?_
          refine eGR (kd_8 hL) (Nat.le_of_ble_eq_true rfl) (rd_told hL) ?_
          refine eCV (kd_82 hL) (Nat.le_of_ble_eq_true rfl) (fun _ hv => E_X1_aliveAt_ok hn hL (layC_82 hL) (layT hL) hv) h (fun v8 h => ?_)
          exact eLeaf (θ := (fun (o : (Int32 × ST)) => (o.1, mkM K R o.2))) h rfl
        · refine eIF h (fun c9 h => ?_) (fun c9 h => ?_)
          · refine eGR (kd_8 hL) (Nat.le_of_ble_eq_true rfl) (rd_8_11 hL) ?_
            refine eGR (kd_8 hL) (Nat.le_of_ble_eq_true rfl) (rd_told hL) ?_
            refine eCV (kd_82 hL) (Nat.le_of_ble_eq_true rfl) (fun _ hv => E_X1_goneThings_ok hn hL (layC_82 hL) (layT hL) hv) h (fun v10 h => ?_)
            exact eLeaf (θ := (fun (o : (Int32 × ST)) => (o.1, mkM K R o.2))) h rfl
          · refine eIF h (fun c11 h => ?_) (fun c11 h => ?_)
            · refine eGR (kd_8 hL) (Nat.le_of_ble_eq_true rfl) (rd_8_11 hL) ?_
              refine eGR (kd_82 hL) (Nat.le_of_ble_eq_true rfl) (rd_82_0 hL) ?_
              refine eGR (kd_8 hL) (Nat.le_of_ble_eq_true rfl) (rd_told hL) ?_
              refine eCV (kd_83 hL) (Nat.le_of_ble_eq_true rfl) (fun _ hv => E_X3_worthMissed_ok hn hL (layN_83 hL) (layT hL) hv) h (fun v12 h => ?_)
              exact eLeaf (θ := (fun (o : (Int32 × ST)) => (o.1, mkM K R o.2))) h rfl
            · refine eGR (kd_8 hL) (Nat.le_of_ble_eq_true rfl) (rd_8_11 hL) ?_
              refine eGI (kd_82 hL) (Nat.le_of_ble_eq_true rfl) ?_
              exact eLeaf (θ := (fun (o : (Int32 × ST)) => (o.1, mkM K R o.2))) h rfl
      · exact eLeaf (θ := (fun (o : (Int32 × ST)) => (o.1, mkM K R o.2))) h rfl
-- OnlyUpward.kept(IIII)I
set_option maxRecDepth 100000 in
set_option maxHeartbeats 4000000 in
def E_X11_kept (n : Nat) (S : ST) (tw : Nat) (a1 : Int32) (a2 : Int32) (a3 : Int32) (a4 : Int32) : Option (Int32 × ST) :=
  if a2 < (1 : Int32) then some ((-1 : Int32), S) else if (50 : Int32) < a2 then some ((-1 : Int32), S) else (E_X11_isFrail n S a3).bind fun v3 => if v3 = 0 then some ((-1 : Int32), S) else (E_X11_isOne n S tw (2 : Int32) a4).bind fun v5 => if v5 = 0 then some ((-1 : Int32), S) else (iter (fun (s7 : Int32 × Int32 × ST) => if a2 ≤ s7.2.1 then some (.inr (s7.1, s7.2.2)) else (E_X11_goDay n s7.2.2 tw (a1 + s7.2.1) a3).bind fun S10 => (E_X1_goneThings n S10 82 tw).bind fun v11 => (E_X11_hasBit n S10 v11 a4).bind fun v12 => jn (fun (u13 : Int32) => some (.inl (u13, (s7.2.1 + (1 : Int32)), S10))) fun j14 => if v12 = 0 then j14 (s7.1 + (1 : Int32)) else j14 s7.1) n ((0 : Int32), (0 : Int32), S)).bind fun (e7 : Int32 × ST) => some (e7.1, e7.2)
set_option maxRecDepth 100000 in
set_option maxHeartbeats 4000000 in
theorem E_X11_kept_ok {n : Nat} (hn : 30000 ≤ n) {K : AK} {R : Nat → Nat → Option Nat} {S : ST} {a1 : Int32} {a2 : Int32} {a3 : Int32} {a4 : Int32} {tw en : Nat} (hL : Lay K R tw en) {o : (Int32 × ST)} (h : E_X11_kept n S tw a1 a2 a3 a4 = some o) : F_X11_kept n (mkM K R S) 8 a1 a2 a3 a4 = some (o.1, mkM K R o.2) := by
  unfold E_X11_kept at h
  unfold F_X11_kept
  refine eIF h (fun c1 h => ?_) (fun c1 h => ?_)
  · exact eLeaf (θ := (fun (o : (Int32 × ST)) => (o.1, mkM K R o.2))) h rfl
  · refine eIF h (fun c2 h => ?_) (fun c2 h => ?_)
    · exact eLeaf (θ := (fun (o : (Int32 × ST)) => (o.1, mkM K R o.2))) h rfl
    · refine eCS (fun _ hv => E_X11_isFrail_ok hn hL hv) h (fun v3 h => ?_)
      refine eIF h (fun c4 h => ?_) (fun c4 h => ?_)
      · exact eLeaf (θ := (fun (o : (Int32 × ST)) => (o.1, mkM K R o.2))) h rfl
      · refine eCV (kd_8 hL) (Nat.le_of_ble_eq_true rfl) (fun _ hv => E_X11_isOne_ok hn hL hv) h (fun v5 h => ?_)
        refine eIF h (fun c6 h => ?_) (fun c6 h => ?_)
        · exact eLeaf (θ := (fun (o : (Int32 × ST)) => (o.1, mkM K R o.2))) h rfl
        · refine eLP (fun (s7 : Int32 × Int32 × ST) => (s7.1, s7.2.1, mkM K R s7.2.2)) (fun (e7 : Int32 × ST) => (e7.1, mkM K R e7.2)) h rfl ?_ ?_
          · intro s7 x7 h
            refine eIF h (fun c8 h => ?_) (fun c8 h => ?_)
            · exact eLeaf (θ := (Sum.map (fun (s7 : Int32 × Int32 × ST) => (s7.1, s7.2.1, mkM K R s7.2.2)) (fun (e7 : Int32 × ST) => (e7.1, mkM K R e7.2)))) h rfl
            · refine eCwV (kd_8 hL) (Nat.le_of_ble_eq_true rfl) (fun _ hv => E_X11_goDay_ok hn hL hv) h (fun S10 h => ?_)
              refine eGR (kd_8 hL) (Nat.le_of_ble_eq_true rfl) (rd_8_11 hL) ?_
              refine eGR (kd_8 hL) (Nat.le_of_ble_eq_true rfl) (rd_told hL) ?_
              refine eCV (kd_82 hL) (Nat.le_of_ble_eq_true rfl) (fun _ hv => E_X1_goneThings_ok hn hL (layC_82 hL) (layT hL) hv) h (fun v11 h => ?_)
              refine eCS (fun _ hv => E_X11_hasBit_ok hn hL hv) h (fun v12 h => ?_)
              refine eJN (fun j14 fj14 => ∀ (u13 : Int32), j14 u13 = some x7 → fj14 u13 = some (Sum.map (fun (s7 : Int32 × Int32 × ST) => (s7.1, s7.2.1, mkM K R s7.2.2)) (fun (e7 : Int32 × ST) => (e7.1, mkM K R e7.2)) x7)) h ?_ ?_
              · intro u13 h
                exact eLeaf (θ := (Sum.map (fun (s7 : Int32 × Int32 × ST) => (s7.1, s7.2.1, mkM K R s7.2.2)) (fun (e7 : Int32 × ST) => (e7.1, mkM K R e7.2)))) h rfl
              · intro j14 fj14 Jj14 h
                refine eIF h (fun c15 h => ?_) (fun c15 h => ?_)
                · exact Jj14 _ h
                · exact Jj14 _ h
          · intro e7 h
            exact eLeaf (θ := (fun (o : (Int32 × ST)) => (o.1, mkM K R o.2))) h rfl
-- OnlyUpward$Plan.keep(I)Z
set_option maxRecDepth 100000 in
set_option maxHeartbeats 4000000 in
def E_X5_keep (n : Nat) (S : ST) (a1 : Int32) : Option (Int32 × ST) :=
  if a1 < 0 then some ((0 : Int32), S) else if a1 < (3 : Int32) then (wr S 75 3 a1 (S.1 72 1)).bind fun S3 => (cpS S3 73 150 (0 : Int32) 74 450 (a1 * (150 : Int32)) (150 : Int32)).bind fun S4 => some ((1 : Int32), S4) else some ((0 : Int32), S)
set_option maxRecDepth 100000 in
set_option maxHeartbeats 4000000 in
theorem E_X5_keep_ok {n : Nat} (hn : 30000 ≤ n) {K : AK} {R : Nat → Nat → Option Nat} {S : ST} {a1 : Int32} {tz en : Nat} (hL : Lay K R tz en) {o : (Int32 × ST)} (h : E_X5_keep n S a1 = some o) : F_X5_keep n (mkM K R S) 72 a1 = some (o.1, mkM K R o.2) := by
  unfold E_X5_keep at h
  unfold F_X5_keep
  refine eIF h (fun c1 h => ?_) (fun c1 h => ?_)
  · exact eLeaf (θ := (fun (o : (Int32 × ST)) => (o.1, mkM K R o.2))) h rfl
  · refine eIF h (fun c2 h => ?_) (fun c2 h => ?_)
    · refine eGR (kd_72 hL) (Nat.le_of_ble_eq_true rfl) (rd_72_3 hL) ?_
      refine eGI (kd_72 hL) (Nat.le_of_ble_eq_true rfl) ?_
      refine eWI (kd_75 hL) (Nat.le_of_ble_eq_true rfl) h (fun S3 h => ?_)
      refine eGR (kd_72 hL) (Nat.le_of_ble_eq_true rfl) (rd_72_0 hL) ?_
      refine eGR (kd_72 hL) (Nat.le_of_ble_eq_true rfl) (rd_72_2 hL) ?_
      refine eGR (kd_72 hL) (Nat.le_of_ble_eq_true rfl) (rd_72_0 hL) ?_
      refine eAL (kd_73 hL) (by decide) ?_
      refine eGR (kd_72 hL) (Nat.le_of_ble_eq_true rfl) (rd_72_0 hL) ?_
      refine eAL (kd_73 hL) (by decide) ?_
      refine eCP (kd_73 hL) (kd_74 hL) (Nat.le_of_ble_eq_true rfl) (Nat.le_of_ble_eq_true rfl) h (fun S4 h => ?_)
      exact eLeaf (θ := (fun (o : (Int32 × ST)) => (o.1, mkM K R o.2))) h rfl
    · exact eLeaf (θ := (fun (o : (Int32 × ST)) => (o.1, mkM K R o.2))) h rfl
-- OnlyUpward.hold(I)Z
set_option maxRecDepth 100000 in
set_option maxHeartbeats 4000000 in
def E_X11_hold (n : Nat) (S : ST) (tw : Nat) (a1 : Int32) : Option (Int32 × ST) :=
  (E_X5_keep n S a1).bind fun v1 => gd (narrow .boolean (.int v1.1) = .int v1.1) (some (v1.1, v1.2))
set_option maxRecDepth 100000 in
set_option maxHeartbeats 4000000 in
theorem E_X11_hold_ok {n : Nat} (hn : 30000 ≤ n) {K : AK} {R : Nat → Nat → Option Nat} {S : ST} {a1 : Int32} {tw en : Nat} (hL : Lay K R tw en) {o : (Int32 × ST)} (h : E_X11_hold n S tw a1 = some o) : F_X11_hold n (mkM K R S) 8 a1 = some (o.1, mkM K R o.2) := by
  unfold E_X11_hold at h
  unfold F_X11_hold
  refine eGR (kd_8 hL) (Nat.le_of_ble_eq_true rfl) (rd_8_8 hL) ?_
  refine eCwiV (kd_72 hL) (Nat.le_of_ble_eq_true rfl) (fun _ hv => E_X5_keep_ok hn hL hv) h (fun v1 h => ?_)
  refine eGD h (fun c2 h => ?_)
  exact eLeaf (θ := (fun (o : (Int32 × ST)) => (o.1, mkM K R o.2))) h rfl
-- OnlyUpward$Plan.bring(I)Z
set_option maxRecDepth 100000 in
set_option maxHeartbeats 4000000 in
def E_X5_bring (n : Nat) (S : ST) (a1 : Int32) : Option (Int32 × ST) :=
  if a1 < 0 then some ((0 : Int32), S) else if (3 : Int32) ≤ a1 then some ((0 : Int32), S) else (rd (S.1 75) 3 a1).bind fun v3 => if v3 = (-1 : Int32) then some ((0 : Int32), S) else (rd (S.1 75) 3 a1).bind fun v5 => lets (upI S 72 1 v5) fun (S6 : ST) => (cpS S6 74 450 (a1 * (150 : Int32)) 73 150 (0 : Int32) (150 : Int32)).bind fun S7 => some ((1 : Int32), S7)
set_option maxRecDepth 100000 in
set_option maxHeartbeats 4000000 in
theorem E_X5_bring_ok {n : Nat} (hn : 30000 ≤ n) {K : AK} {R : Nat → Nat → Option Nat} {S : ST} {a1 : Int32} {tz en : Nat} (hL : Lay K R tz en) {o : (Int32 × ST)} (h : E_X5_bring n S a1 = some o) : F_X5_bring n (mkM K R S) 72 a1 = some (o.1, mkM K R o.2) := by
  unfold E_X5_bring at h
  unfold F_X5_bring
  refine eIF h (fun c1 h => ?_) (fun c1 h => ?_)
  · exact eLeaf (θ := (fun (o : (Int32 × ST)) => (o.1, mkM K R o.2))) h rfl
  · refine eIF h (fun c2 h => ?_) (fun c2 h => ?_)
    · exact eLeaf (θ := (fun (o : (Int32 × ST)) => (o.1, mkM K R o.2))) h rfl
    · refine eGR (kd_72 hL) (Nat.le_of_ble_eq_true rfl) (rd_72_3 hL) ?_
      refine eRI (kd_75 hL) h (fun v3 h => ?_)
      refine eIF h (fun c4 h => ?_) (fun c4 h => ?_)
      · exact eLeaf (θ := (fun (o : (Int32 × ST)) => (o.1, mkM K R o.2))) h rfl
      · refine eGR (kd_72 hL) (Nat.le_of_ble_eq_true rfl) (rd_72_3 hL) ?_
        refine eRI (kd_75 hL) h (fun v5 h => ?_)
        refine ePI (kd_72 hL) (Nat.le_of_ble_eq_true rfl) h (fun S6 h => ?_)
        refine eGR (kd_72 hL) (Nat.le_of_ble_eq_true rfl) (rd_72_2 hL) ?_
        refine eGR (kd_72 hL) (Nat.le_of_ble_eq_true rfl) (rd_72_0 hL) ?_
        refine eAL (kd_73 hL) (by decide) ?_
        refine eGR (kd_72 hL) (Nat.le_of_ble_eq_true rfl) (rd_72_0 hL) ?_
        refine eGR (kd_72 hL) (Nat.le_of_ble_eq_true rfl) (rd_72_0 hL) ?_
        refine eAL (kd_73 hL) (by decide) ?_
        refine eCP (kd_74 hL) (kd_73 hL) (Nat.le_of_ble_eq_true rfl) (Nat.le_of_ble_eq_true rfl) h (fun S7 h => ?_)
        exact eLeaf (θ := (fun (o : (Int32 × ST)) => (o.1, mkM K R o.2))) h rfl
-- OnlyUpward.restore(I)Z
set_option maxRecDepth 100000 in
set_option maxHeartbeats 4000000 in
def E_X11_restore (n : Nat) (S : ST) (tw : Nat) (a1 : Int32) : Option (Int32 × ST) :=
  lets (upI S 8 10 (0 : Int32)) fun (S1 : ST) => (E_X5_bring n S1 a1).bind fun v2 => gd (narrow .boolean (.int v2.1) = .int v2.1) (some (v2.1, v2.2))
set_option maxRecDepth 100000 in
set_option maxHeartbeats 4000000 in
theorem E_X11_restore_ok {n : Nat} (hn : 30000 ≤ n) {K : AK} {R : Nat → Nat → Option Nat} {S : ST} {a1 : Int32} {tw en : Nat} (hL : Lay K R tw en) {o : (Int32 × ST)} (h : E_X11_restore n S tw a1 = some o) : F_X11_restore n (mkM K R S) 8 a1 = some (o.1, mkM K R o.2) := by
  unfold E_X11_restore at h
  unfold F_X11_restore
  refine ePZ (kd_8 hL) (Nat.le_of_ble_eq_true rfl) (by decide) h (fun S1 h => ?_)
  refine eGR (kd_8 hL) (Nat.le_of_ble_eq_true rfl) (rd_8_8 hL) ?_
  refine eCwiV (kd_72 hL) (Nat.le_of_ble_eq_true rfl) (fun _ hv => E_X5_bring_ok hn hL hv) h (fun v2 h => ?_)
  refine eGD h (fun c3 h => ?_)
  exact eLeaf (θ := (fun (o : (Int32 × ST)) => (o.1, mkM K R o.2))) h rfl
-- OnlyUpward$Plan.fullSlots()I
set_option maxRecDepth 100000 in
set_option maxHeartbeats 4000000 in
def E_X5_fullSlots (n : Nat) (S : ST) : Option Int32 :=
  (iter (fun (s1 : Int32 × Int32) => if (3 : Int32) ≤ s1.2 then some (.inr s1.1) else (rd (S.1 75) 3 s1.2).bind fun v3 => jn (fun (u4 : Int32) => some (.inl ((s1.1 + u4), (s1.2 + (1 : Int32))))) fun j5 => if v3 = (-1 : Int32) then j5 (0 : Int32) else j5 (1 : Int32)) n ((0 : Int32), (0 : Int32))).bind fun (e1 : Int32) => some e1
set_option maxRecDepth 100000 in
set_option maxHeartbeats 4000000 in
theorem E_X5_fullSlots_ok {n : Nat} (hn : 30000 ≤ n) {K : AK} {R : Nat → Nat → Option Nat} {S : ST} {tz en : Nat} (hL : Lay K R tz en) {o : Int32} (h : E_X5_fullSlots n S  = some o) : F_X5_fullSlots n (mkM K R S) 72 = some o := by
  unfold E_X5_fullSlots at h
  unfold F_X5_fullSlots
  refine eLP (fun (s1 : Int32 × Int32) => s1) (fun (e1 : Int32) => e1) h rfl ?_ ?_
  · intro s1 x1 h
    refine eIF h (fun c2 h => ?_) (fun c2 h => ?_)
    · exact eLeaf (θ := (Sum.map (fun (s1 : Int32 × Int32) => s1) (fun (e1 : Int32) => e1))) h rfl
    · refine eGR (kd_72 hL) (Nat.le_of_ble_eq_true rfl) (rd_72_3 hL) ?_
      refine eRI (kd_75 hL) h (fun v3 h => ?_)
      refine eJN (fun j5 fj5 => ∀ (u4 : Int32), j5 u4 = some x1 → fj5 u4 = some (Sum.map (fun (s1 : Int32 × Int32) => s1) (fun (e1 : Int32) => e1) x1)) h ?_ ?_
      · intro u4 h
        exact eLeaf (θ := (Sum.map (fun (s1 : Int32 × Int32) => s1) (fun (e1 : Int32) => e1))) h rfl
      · intro j5 fj5 Jj5 h
        refine eIF h (fun c6 h => ?_) (fun c6 h => ?_)
        · exact Jj5 _ h
        · exact Jj5 _ h
  · intro e1 h
    exact eLeaf (θ := (fun (o : Int32) => o)) h rfl
-- OnlyUpward.countOfOne(I)I
set_option maxRecDepth 100000 in
set_option maxHeartbeats 4000000 in
def E_X11_countOfOne (n : Nat) (S : ST) (tw : Nat) (a1 : Int32) : Option Int32 :=
  jn (jn (if a1 < (40 : Int32) then some (-1 : Int32) else (E_X11_isOne n S tw (7 : Int32) (a1 - (40 : Int32))).bind fun v2 => if v2 = 0 then some (-1 : Int32) else (rd (S.1 (tw + 11)) 6 (a1 - (40 : Int32))).bind fun v4 => some v4) fun j5 => if a1 < (30 : Int32) then j5 else (E_X11_isOne n S tw (8 : Int32) (a1 - (30 : Int32))).bind fun v7 => if v7 = 0 then j5 else (rd (S.1 (tw + 12)) 4 (a1 - (30 : Int32))).bind fun v9 => (E_J6_bitCount_0f7a4 n S v9).bind fun v10 => some v10) fun j11 => if a1 < (20 : Int32) then j11 else (E_X11_isOne n S tw (2 : Int32) (a1 - (20 : Int32))).bind fun v13 => if v13 = 0 then j11 else (rd (S.1 (tw + 4)) 6 (a1 - (20 : Int32))).bind fun v15 => some v15
set_option maxRecDepth 100000 in
set_option maxHeartbeats 4000000 in
theorem E_X11_countOfOne_ok {n : Nat} (hn : 30000 ≤ n) {K : AK} {R : Nat → Nat → Option Nat} {S : ST} {a1 : Int32} {tw en : Nat} (hL : Lay K R tw en) {o : Int32} (h : E_X11_countOfOne n S tw a1 = some o) : F_X11_countOfOne n (mkM K R S) 8 a1 = some o := by
  unfold E_X11_countOfOne at h
  unfold F_X11_countOfOne
  refine eJN (fun j11 fj11 => j11 = some o → fj11 = some o) h ?_ ?_
  · intro h
    refine eJN (fun j5 fj5 => j5 = some o → fj5 = some o) h ?_ ?_
    · intro h
      refine eIF h (fun c1 h => ?_) (fun c1 h => ?_)
      · exact eLeaf (θ := (fun (o : Int32) => o)) h rfl
      · refine eCV (kd_8 hL) (Nat.le_of_ble_eq_true rfl) (fun _ hv => E_X11_isOne_ok hn hL hv) h (fun v2 h => ?_)
        refine eIF h (fun c3 h => ?_) (fun c3 h => ?_)
        · exact eLeaf (θ := (fun (o : Int32) => o)) h rfl
        · refine eGR (kd_8 hL) (Nat.le_of_ble_eq_true rfl) (rd_told hL) ?_
          refine eGR (kW_0 (layT hL)) (k8W 0 (layT hL)) (rW_0_10 (layT hL)) ?_
          refine eRI (kW_11 (layT hL)) h (fun v4 h => ?_)
          exact eLeaf (θ := (fun (o : Int32) => o)) h rfl
    · intro j5 fj5 Jj5 h
      refine eIF h (fun c6 h => ?_) (fun c6 h => ?_)
      · exact Jj5 h
      · refine eCV (kd_8 hL) (Nat.le_of_ble_eq_true rfl) (fun _ hv => E_X11_isOne_ok hn hL hv) h (fun v7 h => ?_)
        refine eIF h (fun c8 h => ?_) (fun c8 h => ?_)
        · exact Jj5 h
        · refine eGR (kd_8 hL) (Nat.le_of_ble_eq_true rfl) (rd_told hL) ?_
          refine eGR (kW_0 (layT hL)) (k8W 0 (layT hL)) (rW_0_11 (layT hL)) ?_
          refine eRI (kW_12 (layT hL)) h (fun v9 h => ?_)
          refine eCS (fun _ hv => E_J6_bitCount_0f7a4_ok hn hL hv) h (fun v10 h => ?_)
          exact eLeaf (θ := (fun (o : Int32) => o)) h rfl
  · intro j11 fj11 Jj11 h
    refine eIF h (fun c12 h => ?_) (fun c12 h => ?_)
    · exact Jj11 h
    · refine eCV (kd_8 hL) (Nat.le_of_ble_eq_true rfl) (fun _ hv => E_X11_isOne_ok hn hL hv) h (fun v13 h => ?_)
      refine eIF h (fun c14 h => ?_) (fun c14 h => ?_)
      · exact Jj11 h
      · refine eGR (kd_8 hL) (Nat.le_of_ble_eq_true rfl) (rd_told hL) ?_
        refine eGR (kW_0 (layT hL)) (k8W 0 (layT hL)) (rW_0_3 (layT hL)) ?_
        refine eRI (kW_4 (layT hL)) h (fun v15 h => ?_)
        exact eLeaf (θ := (fun (o : Int32) => o)) h rfl
-- OnlyUpward.count(I)I
set_option maxRecDepth 100000 in
set_option maxHeartbeats 4000000 in
def E_X11_count (n : Nat) (S : ST) (tw : Nat) (a1 : Int32) : Option Int32 :=
  jn (if a1 = (10 : Int32) then some (S.1 72 1) else if a1 = (11 : Int32) then some (S.1 8 1) else if a1 = (12 : Int32) then (E_X5_fullSlots n S ).bind fun v4 => some v4 else (E_X11_countOfOne n S tw a1).bind fun v5 => some v5) fun j6 => if a1 < 0 then j6 else if (10 : Int32) ≤ a1 then j6 else (rd (S.1 4) 10 a1).bind fun v9 => (rd (S.1 (tw + 1)) 11 v9).bind fun v10 => some v10
set_option maxRecDepth 100000 in
set_option maxHeartbeats 4000000 in
theorem E_X11_count_ok {n : Nat} (hn : 30000 ≤ n) {K : AK} {R : Nat → Nat → Option Nat} {S : ST} {a1 : Int32} {tw en : Nat} (hL : Lay K R tw en) {o : Int32} (h : E_X11_count n S tw a1 = some o) : F_X11_count n (mkM K R S) 8 a1 = some o := by
  unfold E_X11_count at h
  unfold F_X11_count
  refine eJN (fun j6 fj6 => j6 = some o → fj6 = some o) h ?_ ?_
  · intro h
    refine eIF h (fun c1 h => ?_) (fun c1 h => ?_)
    · refine eGR (kd_8 hL) (Nat.le_of_ble_eq_true rfl) (rd_8_8 hL) ?_
      refine eGI (kd_72 hL) (Nat.le_of_ble_eq_true rfl) ?_
      exact eLeaf (θ := (fun (o : Int32) => o)) h rfl
    · refine eIF h (fun c2 h => ?_) (fun c2 h => ?_)
      · refine eGI (kd_8 hL) (Nat.le_of_ble_eq_true rfl) ?_
        exact eLeaf (θ := (fun (o : Int32) => o)) h rfl
      · refine eIF h (fun c3 h => ?_) (fun c3 h => ?_)
        · refine eGR (kd_8 hL) (Nat.le_of_ble_eq_true rfl) (rd_8_8 hL) ?_
          refine eCV (kd_72 hL) (Nat.le_of_ble_eq_true rfl) (fun _ hv => E_X5_fullSlots_ok hn hL hv) h (fun v4 h => ?_)
          exact eLeaf (θ := (fun (o : Int32) => o)) h rfl
        · refine eCV (kd_8 hL) (Nat.le_of_ble_eq_true rfl) (fun _ hv => E_X11_countOfOne_ok hn hL hv) h (fun v5 h => ?_)
          exact eLeaf (θ := (fun (o : Int32) => o)) h rfl
  · intro j6 fj6 Jj6 h
    refine eIF h (fun c7 h => ?_) (fun c7 h => ?_)
    · exact Jj6 h
    · refine eAL (kd_4 hL) (by decide) ?_
      refine eIF h (fun c8 h => ?_) (fun c8 h => ?_)
      · exact Jj6 h
      · refine eGR (kd_8 hL) (Nat.le_of_ble_eq_true rfl) (rd_told hL) ?_
        refine eGR (kW_0 (layT hL)) (k8W 0 (layT hL)) (rW_0_0 (layT hL)) ?_
        refine eRI (kd_4 hL) h (fun v9 h => ?_)
        refine eRI (kW_1 (layT hL)) h (fun v10 h => ?_)
        exact eLeaf (θ := (fun (o : Int32) => o)) h rfl
