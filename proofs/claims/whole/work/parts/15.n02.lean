-- OnlyUpward$World.settle()V
set_option maxRecDepth 100000 in
set_option maxHeartbeats 4000000 in
def E_X10_settle (n : Nat) (S : ST) (w : Nat) : Option ST :=
  lets (fillS S (w + 22) 144 (0 : Int32)) fun (S1 : ST) => (iter (fun (s2 : Int32 × ST) => (rd (s2.2.1 (w + 1)) 11 (1 : Int32)).bind fun v3 => if v3 ≤ s2.1 then some (.inr s2.2) else (rd (s2.2.1 (w + 1)) 11 (0 : Int32)).bind fun v5 => if v5 ≤ 0 then some (.inr s2.2) else (iter (fun (s7 : Int32 × ST) => if (24 : Int32) ≤ s7.1 then some (.inr s7.2) else (rd (s7.2.1 (w + 21)) 240 ((s2.1 * (24 : Int32)) + s7.1)).bind fun v9 => (wr s7.2 (w + 21) 240 ((s2.1 * (24 : Int32)) + s7.1) (mxI (0 : Int32) v9)).bind fun S10 => (rd (S10.1 (w + 22)) 144 (((mxI (0 : Int32) v9) * (24 : Int32)) + s7.1)).bind fun v11 => (wr S10 (w + 22) 144 (((mxI (0 : Int32) v9) * (24 : Int32)) + s7.1) (v11 ||| ((1 : Int32) <<< (s2.1 &&& 31)))).bind fun S12 => some (.inl ((s7.1 + (1 : Int32)), S12))) n ((0 : Int32), s2.2)).bind fun (e7 : ST) => some (.inl ((s2.1 + (1 : Int32)), e7))) n ((0 : Int32), S1)).bind fun (e2 : ST) => (iter (fun (s13 : Int32 × ST) => (rd (s13.2.1 (w + 1)) 11 (0 : Int32)).bind fun v14 => if v14 ≤ s13.1 then some (.inr s13.2) else (iter (fun (s16 : Int32 × ST) => if (24 : Int32) ≤ s16.1 then some (.inr s16.2) else (rd (s16.2.1 (w + 5)) 6 s13.1).bind fun v18 => (E_X10_standersWithin n s16.2 w (v18 ||| ((1 : Int32) <<< (s13.1 &&& 31))) s16.1).bind fun v19 => (wr s16.2 (w + 23) 144 ((s13.1 * (24 : Int32)) + s16.1) v19).bind fun S20 => some (.inl ((s16.1 + (1 : Int32)), S20))) n ((0 : Int32), s13.2)).bind fun (e16 : ST) => some (.inl ((s13.1 + (1 : Int32)), e16))) n ((0 : Int32), e2)).bind fun (e13 : ST) => (iter (fun (s21 : Int32 × ST) => (rd (s21.2.1 (w + 1)) 11 (1 : Int32)).bind fun v22 => if v22 ≤ s21.1 then some (.inr s21.2) else (iter (fun (s24 : Int32 × ST) => if (24 : Int32) ≤ s24.1 then some (.inr s24.2) else (E_X10_othersToSayTo n s24.2 w s21.1 s24.1).bind fun v26 => (wr v26.2 (w + 24) 240 ((s21.1 * (24 : Int32)) + s24.1) v26.1).bind fun S27 => some (.inl ((s24.1 + (1 : Int32)), S27))) n ((0 : Int32), s21.2)).bind fun (e24 : ST) => some (.inl ((s21.1 + (1 : Int32)), e24))) n ((0 : Int32), e13)).bind fun (e21 : ST) => some e21
set_option maxRecDepth 100000 in
set_option maxHeartbeats 4000000 in
theorem E_X10_settle_ok {n : Nat} (hn : 30000 ≤ n) {K : AK} {R : Nat → Nat → Option Nat} {S : ST} {w : Nat} {tz en : Nat} (hL : Lay K R tz en) (hw : LW K R w) {o : ST} (h : E_X10_settle n S w = some o) : F_X10_settle n (mkM K R S) w = some (mkM K R o) := by
  unfold E_X10_settle at h
  unfold F_X10_settle
  refine eGR (kW_0 hw) (k8W 0 hw) (rW_0_14 hw) ?_
  refine eFL (by omega) (kW_22 hw) (k8W 22 hw) h (fun S1 h => ?_)
  refine eLP (fun (s2 : Int32 × ST) => (s2.1, mkM K R s2.2)) (fun (e2 : ST) => mkM K R e2) h rfl ?_ ?_
  · intro s2 x2 h
    refine eGR (kW_0 hw) (k8W 0 hw) (rW_0_0 hw) ?_
    refine eRI (kW_1 hw) h (fun v3 h => ?_)
    refine eIF h (fun c4 h => ?_) (fun c4 h => ?_)
    · exact eLeaf (θ := (Sum.map (fun (s2 : Int32 × ST) => (s2.1, mkM K R s2.2)) (fun (e2 : ST) => mkM K R e2))) h rfl
    · refine eGR (kW_0 hw) (k8W 0 hw) (rW_0_0 hw) ?_
      refine eRI (kW_1 hw) h (fun v5 h => ?_)
      refine eIF h (fun c6 h => ?_) (fun c6 h => ?_)
      · exact eLeaf (θ := (Sum.map (fun (s2 : Int32 × ST) => (s2.1, mkM K R s2.2)) (fun (e2 : ST) => mkM K R e2))) h rfl
      · refine eLP (fun (s7 : Int32 × ST) => (s7.1, mkM K R s7.2)) (fun (e7 : ST) => mkM K R e7) h rfl ?_ ?_
        · intro s7 x7 h
          refine eIF h (fun c8 h => ?_) (fun c8 h => ?_)
          · exact eLeaf (θ := (Sum.map (fun (s7 : Int32 × ST) => (s7.1, mkM K R s7.2)) (fun (e7 : ST) => mkM K R e7))) h rfl
          · refine eGR (kW_0 hw) (k8W 0 hw) (rW_0_13 hw) ?_
            refine eRI (kW_21 hw) h (fun v9 h => ?_)
            refine eGR (kW_0 hw) (k8W 0 hw) (rW_0_13 hw) ?_
            refine eWI (kW_21 hw) (k8W 21 hw) h (fun S10 h => ?_)
            refine eGR (kW_0 hw) (k8W 0 hw) (rW_0_14 hw) ?_
            refine eRI (kW_22 hw) h (fun v11 h => ?_)
            refine eWI (kW_22 hw) (k8W 22 hw) h (fun S12 h => ?_)
            exact eLeaf (θ := (Sum.map (fun (s7 : Int32 × ST) => (s7.1, mkM K R s7.2)) (fun (e7 : ST) => mkM K R e7))) h rfl
        · intro e7 h
          exact eLeaf (θ := (Sum.map (fun (s2 : Int32 × ST) => (s2.1, mkM K R s2.2)) (fun (e2 : ST) => mkM K R e2))) h rfl
  · intro e2 h
    refine eLP (fun (s13 : Int32 × ST) => (s13.1, mkM K R s13.2)) (fun (e13 : ST) => mkM K R e13) h rfl ?_ ?_
    · intro s13 x13 h
      refine eGR (kW_0 hw) (k8W 0 hw) (rW_0_0 hw) ?_
      refine eRI (kW_1 hw) h (fun v14 h => ?_)
      refine eIF h (fun c15 h => ?_) (fun c15 h => ?_)
      · exact eLeaf (θ := (Sum.map (fun (s13 : Int32 × ST) => (s13.1, mkM K R s13.2)) (fun (e13 : ST) => mkM K R e13))) h rfl
      · refine eLP (fun (s16 : Int32 × ST) => (s16.1, mkM K R s16.2)) (fun (e16 : ST) => mkM K R e16) h rfl ?_ ?_
        · intro s16 x16 h
          refine eIF h (fun c17 h => ?_) (fun c17 h => ?_)
          · exact eLeaf (θ := (Sum.map (fun (s16 : Int32 × ST) => (s16.1, mkM K R s16.2)) (fun (e16 : ST) => mkM K R e16))) h rfl
          · refine eGR (kW_0 hw) (k8W 0 hw) (rW_0_15 hw) ?_
            refine eGR (kW_0 hw) (k8W 0 hw) (rW_0_4 hw) ?_
            refine eRI (kW_5 hw) h (fun v18 h => ?_)
            refine eCV (kW_0 hw) (k8W 0 hw) (fun _ hv => E_X10_standersWithin_ok hn hL hw hv) h (fun v19 h => ?_)
            refine eWI (kW_23 hw) (k8W 23 hw) h (fun S20 h => ?_)
            exact eLeaf (θ := (Sum.map (fun (s16 : Int32 × ST) => (s16.1, mkM K R s16.2)) (fun (e16 : ST) => mkM K R e16))) h rfl
        · intro e16 h
          exact eLeaf (θ := (Sum.map (fun (s13 : Int32 × ST) => (s13.1, mkM K R s13.2)) (fun (e13 : ST) => mkM K R e13))) h rfl
    · intro e13 h
      refine eLP (fun (s21 : Int32 × ST) => (s21.1, mkM K R s21.2)) (fun (e21 : ST) => mkM K R e21) h rfl ?_ ?_
      · intro s21 x21 h
        refine eGR (kW_0 hw) (k8W 0 hw) (rW_0_0 hw) ?_
        refine eRI (kW_1 hw) h (fun v22 h => ?_)
        refine eIF h (fun c23 h => ?_) (fun c23 h => ?_)
        · exact eLeaf (θ := (Sum.map (fun (s21 : Int32 × ST) => (s21.1, mkM K R s21.2)) (fun (e21 : ST) => mkM K R e21))) h rfl
        · refine eLP (fun (s24 : Int32 × ST) => (s24.1, mkM K R s24.2)) (fun (e24 : ST) => mkM K R e24) h rfl ?_ ?_
          · intro s24 x24 h
            refine eIF h (fun c25 h => ?_) (fun c25 h => ?_)
            · exact eLeaf (θ := (Sum.map (fun (s24 : Int32 × ST) => (s24.1, mkM K R s24.2)) (fun (e24 : ST) => mkM K R e24))) h rfl
            · refine eGR (kW_0 hw) (k8W 0 hw) (rW_0_16 hw) ?_
              refine eCwiV (kW_0 hw) (k8W 0 hw) (fun _ hv => E_X10_othersToSayTo_ok hn hL hw hv) h (fun v26 h => ?_)
              refine eWI (kW_24 hw) (k8W 24 hw) h (fun S27 h => ?_)
              exact eLeaf (θ := (Sum.map (fun (s24 : Int32 × ST) => (s24.1, mkM K R s24.2)) (fun (e24 : ST) => mkM K R e24))) h rfl
          · intro e24 h
            exact eLeaf (θ := (Sum.map (fun (s21 : Int32 × ST) => (s21.1, mkM K R s21.2)) (fun (e21 : ST) => mkM K R e21))) h rfl
      · intro e21 h
        exact eLeaf (θ := (fun (o : ST) => (mkM K R o))) h rfl
-- OnlyUpward$Cheapest.forget()V
set_option maxRecDepth 100000 in
set_option maxHeartbeats 4000000 in
def E_X0_forget (n : Nat) (S : ST) : Option ST :=
  lets (upI S 90 0 (-1 : Int32)) fun (S1 : ST) => some S1
set_option maxRecDepth 100000 in
set_option maxHeartbeats 4000000 in
theorem E_X0_forget_ok {n : Nat} (hn : 30000 ≤ n) {K : AK} {R : Nat → Nat → Option Nat} {S : ST} {tz en : Nat} (hL : Lay K R tz en) {o : ST} (h : E_X0_forget n S  = some o) : F_X0_forget n (mkM K R S) 90 = some (mkM K R o) := by
  unfold E_X0_forget at h
  unfold F_X0_forget
  refine ePI (kd_90 hL) (Nat.le_of_ble_eq_true rfl) h (fun S1 h => ?_)
  exact eLeaf (θ := (fun (o : ST) => (mkM K R o))) h rfl
-- OnlyUpward$Rule.forget()V
set_option maxRecDepth 100000 in
set_option maxHeartbeats 4000000 in
def E_X6_forget (n : Nat) (S : ST) : Option ST :=
  lets (upI S 92 3 (0 : Int32)) fun (S1 : ST) => some S1
set_option maxRecDepth 100000 in
set_option maxHeartbeats 4000000 in
theorem E_X6_forget_ok {n : Nat} (hn : 30000 ≤ n) {K : AK} {R : Nat → Nat → Option Nat} {S : ST} {tz en : Nat} (hL : Lay K R tz en) {o : ST} (h : E_X6_forget n S  = some o) : F_X6_forget n (mkM K R S) 92 = some (mkM K R o) := by
  unfold E_X6_forget at h
  unfold F_X6_forget
  refine ePZ (kd_92 hL) (Nat.le_of_ble_eq_true rfl) (by decide) h (fun S1 h => ?_)
  exact eLeaf (θ := (fun (o : ST) => (mkM K R o))) h rfl
-- OnlyUpward.place()I
set_option maxRecDepth 100000 in
set_option maxHeartbeats 4000000 in
def E_X11_place (n : Nat) (S : ST) (tw : Nat) : Option Int32 :=
  some (S.1 8 2)
set_option maxRecDepth 100000 in
set_option maxHeartbeats 4000000 in
theorem E_X11_place_ok {n : Nat} (hn : 30000 ≤ n) {K : AK} {R : Nat → Nat → Option Nat} {S : ST} {tw en : Nat} (hL : Lay K R tw en) {o : Int32} (h : E_X11_place n S tw = some o) : F_X11_place n (mkM K R S) 8 = some o := by
  unfold E_X11_place at h
  unfold F_X11_place
  refine eGI (kd_8 hL) (Nat.le_of_ble_eq_true rfl) ?_
  exact eLeaf (θ := (fun (o : Int32) => o)) h rfl
-- OnlyUpward.isOne(II)Z
set_option maxRecDepth 100000 in
set_option maxHeartbeats 4000000 in
def E_X11_isOne (n : Nat) (S : ST) (tw : Nat) (a1 : Int32) (a2 : Int32) : Option Int32 :=
  if a2 < 0 then some (0 : Int32) else (rd (S.1 (tw + 1)) 11 a1).bind fun v2 => if v2 ≤ a2 then some (0 : Int32) else some (1 : Int32)
set_option maxRecDepth 100000 in
set_option maxHeartbeats 4000000 in
theorem E_X11_isOne_ok {n : Nat} (hn : 30000 ≤ n) {K : AK} {R : Nat → Nat → Option Nat} {S : ST} {a1 : Int32} {a2 : Int32} {tw en : Nat} (hL : Lay K R tw en) {o : Int32} (h : E_X11_isOne n S tw a1 a2 = some o) : F_X11_isOne n (mkM K R S) 8 a1 a2 = some o := by
  unfold E_X11_isOne at h
  unfold F_X11_isOne
  refine eIF h (fun c1 h => ?_) (fun c1 h => ?_)
  · exact eLeaf (θ := (fun (o : Int32) => o)) h rfl
  · refine eGR (kd_8 hL) (Nat.le_of_ble_eq_true rfl) (rd_told hL) ?_
    refine eGR (kW_0 (layT hL)) (k8W 0 (layT hL)) (rW_0_0 (layT hL)) ?_
    refine eRI (kW_1 (layT hL)) h (fun v2 h => ?_)
    refine eIF h (fun c3 h => ?_) (fun c3 h => ?_)
    · exact eLeaf (θ := (fun (o : Int32) => o)) h rfl
    · exact eLeaf (θ := (fun (o : Int32) => o)) h rfl
-- OnlyUpward.isHour(I)Z
set_option maxRecDepth 100000 in
set_option maxHeartbeats 4000000 in
def E_X11_isHour (n : Nat) (S : ST) (a0 : Int32) : Option Int32 :=
  if a0 < 0 then some (0 : Int32) else if (24 : Int32) ≤ a0 then some (0 : Int32) else some (1 : Int32)
set_option maxRecDepth 100000 in
set_option maxHeartbeats 4000000 in
theorem E_X11_isHour_ok {n : Nat} (hn : 30000 ≤ n) {K : AK} {R : Nat → Nat → Option Nat} {S : ST} {a0 : Int32} {tz en : Nat} (hL : Lay K R tz en) {o : Int32} (h : E_X11_isHour n S a0 = some o) : F_X11_isHour n (mkM K R S) a0 = some o := by
  unfold E_X11_isHour at h
  unfold F_X11_isHour
  refine eIF h (fun c1 h => ?_) (fun c1 h => ?_)
  · exact eLeaf (θ := (fun (o : Int32) => o)) h rfl
  · refine eIF h (fun c2 h => ?_) (fun c2 h => ?_)
    · exact eLeaf (θ := (fun (o : Int32) => o)) h rfl
    · exact eLeaf (θ := (fun (o : Int32) => o)) h rfl
-- OnlyUpward.age(II)I
set_option maxRecDepth 100000 in
set_option maxHeartbeats 4000000 in
def E_X11_age (n : Nat) (S : ST) (tw : Nat) (a1 : Int32) (a2 : Int32) : Option Int32 :=
  (E_X11_isOne n S tw (1 : Int32) a1).bind fun v1 => if v1 = 0 then some (-1 : Int32) else (E_X11_isHour n S a2).bind fun v3 => if v3 = 0 then some (-1 : Int32) else (E_X10_ageAt n S tw a1 a2).bind fun v5 => some v5
set_option maxRecDepth 100000 in
set_option maxHeartbeats 4000000 in
theorem E_X11_age_ok {n : Nat} (hn : 30000 ≤ n) {K : AK} {R : Nat → Nat → Option Nat} {S : ST} {a1 : Int32} {a2 : Int32} {tw en : Nat} (hL : Lay K R tw en) {o : Int32} (h : E_X11_age n S tw a1 a2 = some o) : F_X11_age n (mkM K R S) 8 a1 a2 = some o := by
  unfold E_X11_age at h
  unfold F_X11_age
  refine eCV (kd_8 hL) (Nat.le_of_ble_eq_true rfl) (fun _ hv => E_X11_isOne_ok hn hL hv) h (fun v1 h => ?_)
  refine eIF h (fun c2 h => ?_) (fun c2 h => ?_)
  · exact eLeaf (θ := (fun (o : Int32) => o)) h rfl
  · refine eCS (fun _ hv => E_X11_isHour_ok hn hL hv) h (fun v3 h => ?_)
    refine eIF h (fun c4 h => ?_) (fun c4 h => ?_)
    · exact eLeaf (θ := (fun (o : Int32) => o)) h rfl
    · refine eGR (kd_8 hL) (Nat.le_of_ble_eq_true rfl) (rd_told hL) ?_
      refine eCV (kW_0 (layT hL)) (k8W 0 (layT hL)) (fun _ hv => E_X10_ageAt_ok hn hL (layT hL) hv) h (fun v5 h => ?_)
      exact eLeaf (θ := (fun (o : Int32) => o)) h rfl
-- OnlyUpward.where(II)I
set_option maxRecDepth 100000 in
set_option maxHeartbeats 4000000 in
def E_X11_where (n : Nat) (S : ST) (tw : Nat) (a1 : Int32) (a2 : Int32) : Option Int32 :=
  (E_X11_isOne n S tw (1 : Int32) a1).bind fun v1 => if v1 = 0 then some (-1 : Int32) else (E_X11_isHour n S a2).bind fun v3 => if v3 = 0 then some (-1 : Int32) else (E_X10_placeOf n S tw a1 a2).bind fun v5 => some v5
set_option maxRecDepth 100000 in
set_option maxHeartbeats 4000000 in
theorem E_X11_where_ok {n : Nat} (hn : 30000 ≤ n) {K : AK} {R : Nat → Nat → Option Nat} {S : ST} {a1 : Int32} {a2 : Int32} {tw en : Nat} (hL : Lay K R tw en) {o : Int32} (h : E_X11_where n S tw a1 a2 = some o) : F_X11_where n (mkM K R S) 8 a1 a2 = some o := by
  unfold E_X11_where at h
  unfold F_X11_where
  refine eCV (kd_8 hL) (Nat.le_of_ble_eq_true rfl) (fun _ hv => E_X11_isOne_ok hn hL hv) h (fun v1 h => ?_)
  refine eIF h (fun c2 h => ?_) (fun c2 h => ?_)
  · exact eLeaf (θ := (fun (o : Int32) => o)) h rfl
  · refine eCS (fun _ hv => E_X11_isHour_ok hn hL hv) h (fun v3 h => ?_)
    refine eIF h (fun c4 h => ?_) (fun c4 h => ?_)
    · exact eLeaf (θ := (fun (o : Int32) => o)) h rfl
    · refine eGR (kd_8 hL) (Nat.le_of_ble_eq_true rfl) (rd_told hL) ?_
      refine eCV (kW_0 (layT hL)) (k8W 0 (layT hL)) (fun _ hv => E_X10_placeOf_ok hn hL (layT hL) hv) h (fun v5 h => ?_)
      exact eLeaf (θ := (fun (o : Int32) => o)) h rfl
-- OnlyUpward$World.hearers(II)I
set_option maxRecDepth 100000 in
set_option maxHeartbeats 4000000 in
def E_X10_hearers (n : Nat) (S : ST) (w : Nat) (a1 : Int32) (a2 : Int32) : Option Int32 :=
  if 0 ≤ a1 then (rd (S.1 (w + 23)) 144 ((a1 * (24 : Int32)) + a2)).bind fun v2 => some v2 else some (0 : Int32)
set_option maxRecDepth 100000 in
set_option maxHeartbeats 4000000 in
theorem E_X10_hearers_ok {n : Nat} (hn : 30000 ≤ n) {K : AK} {R : Nat → Nat → Option Nat} {S : ST} {w : Nat} {a1 : Int32} {a2 : Int32} {tz en : Nat} (hL : Lay K R tz en) (hw : LW K R w) {o : Int32} (h : E_X10_hearers n S w a1 a2 = some o) : F_X10_hearers n (mkM K R S) w a1 a2 = some o := by
  unfold E_X10_hearers at h
  unfold F_X10_hearers
  refine eIF h (fun c1 h => ?_) (fun c1 h => ?_)
  · refine eGR (kW_0 hw) (k8W 0 hw) (rW_0_15 hw) ?_
    refine eRI (kW_23 hw) h (fun v2 h => ?_)
    exact eLeaf (θ := (fun (o : Int32) => o)) h rfl
  · exact eLeaf (θ := (fun (o : Int32) => o)) h rfl
-- OnlyUpward.earshot(II)I
set_option maxRecDepth 100000 in
set_option maxHeartbeats 4000000 in
def E_X11_earshot (n : Nat) (S : ST) (tw : Nat) (a1 : Int32) (a2 : Int32) : Option Int32 :=
  (E_X11_isOne n S tw (0 : Int32) a1).bind fun v1 => if v1 = 0 then some (-1 : Int32) else (E_X11_isHour n S a2).bind fun v3 => if v3 = 0 then some (-1 : Int32) else (E_X10_hearers n S tw a1 a2).bind fun v5 => some v5
set_option maxRecDepth 100000 in
set_option maxHeartbeats 4000000 in
theorem E_X11_earshot_ok {n : Nat} (hn : 30000 ≤ n) {K : AK} {R : Nat → Nat → Option Nat} {S : ST} {a1 : Int32} {a2 : Int32} {tw en : Nat} (hL : Lay K R tw en) {o : Int32} (h : E_X11_earshot n S tw a1 a2 = some o) : F_X11_earshot n (mkM K R S) 8 a1 a2 = some o := by
  unfold E_X11_earshot at h
  unfold F_X11_earshot
  refine eCV (kd_8 hL) (Nat.le_of_ble_eq_true rfl) (fun _ hv => E_X11_isOne_ok hn hL hv) h (fun v1 h => ?_)
  refine eIF h (fun c2 h => ?_) (fun c2 h => ?_)
  · exact eLeaf (θ := (fun (o : Int32) => o)) h rfl
  · refine eCS (fun _ hv => E_X11_isHour_ok hn hL hv) h (fun v3 h => ?_)
    refine eIF h (fun c4 h => ?_) (fun c4 h => ?_)
    · exact eLeaf (θ := (fun (o : Int32) => o)) h rfl
    · refine eGR (kd_8 hL) (Nat.le_of_ble_eq_true rfl) (rd_told hL) ?_
      refine eCV (kW_0 (layT hL)) (k8W 0 (layT hL)) (fun _ hv => E_X10_hearers_ok hn hL (layT hL) hv) h (fun v5 h => ?_)
      exact eLeaf (θ := (fun (o : Int32) => o)) h rfl
-- OnlyUpward.areTwo(II)Z
set_option maxRecDepth 100000 in
set_option maxHeartbeats 4000000 in
def E_X11_areTwo (n : Nat) (S : ST) (tw : Nat) (a1 : Int32) (a2 : Int32) : Option Int32 :=
  (E_X11_isOne n S tw (1 : Int32) a1).bind fun v1 => if v1 = 0 then some (0 : Int32) else (E_X11_isOne n S tw (1 : Int32) a2).bind fun v3 => if v3 = 0 then some (0 : Int32) else if a1 = a2 then some (0 : Int32) else some (1 : Int32)
set_option maxRecDepth 100000 in
set_option maxHeartbeats 4000000 in
theorem E_X11_areTwo_ok {n : Nat} (hn : 30000 ≤ n) {K : AK} {R : Nat → Nat → Option Nat} {S : ST} {a1 : Int32} {a2 : Int32} {tw en : Nat} (hL : Lay K R tw en) {o : Int32} (h : E_X11_areTwo n S tw a1 a2 = some o) : F_X11_areTwo n (mkM K R S) 8 a1 a2 = some o := by
  unfold E_X11_areTwo at h
  unfold F_X11_areTwo
  refine eCV (kd_8 hL) (Nat.le_of_ble_eq_true rfl) (fun _ hv => E_X11_isOne_ok hn hL hv) h (fun v1 h => ?_)
  refine eIF h (fun c2 h => ?_) (fun c2 h => ?_)
  · exact eLeaf (θ := (fun (o : Int32) => o)) h rfl
  · refine eCV (kd_8 hL) (Nat.le_of_ble_eq_true rfl) (fun _ hv => E_X11_isOne_ok hn hL hv) h (fun v3 h => ?_)
    refine eIF h (fun c4 h => ?_) (fun c4 h => ?_)
    · exact eLeaf (θ := (fun (o : Int32) => o)) h rfl
    · refine eIF h (fun c5 h => ?_) (fun c5 h => ?_)
      · exact eLeaf (θ := (fun (o : Int32) => o)) h rfl
      · exact eLeaf (θ := (fun (o : Int32) => o)) h rfl
-- OnlyUpward.may(IIIZ)I
set_option maxRecDepth 100000 in
set_option maxHeartbeats 4000000 in
def E_X11_may (n : Nat) (S : ST) (tw : Nat) (a1 : Int32) (a2 : Int32) (a3 : Int32) (a4 : Int32) : Option (Int32 × ST) :=
  (E_X11_areTwo n S tw a1 a2).bind fun v1 => if v1 = 0 then some ((-1 : Int32), S) else (E_X11_isHour n S a3).bind fun v3 => if v3 = 0 then some ((-1 : Int32), S) else (E_X10_everybody n S tw).bind fun v5 => (E_X10_allows n S tw a1 a2 a3 a4 v5).bind fun v6 => if v6.1 = 0 then some ((0 : Int32), v6.2) else some ((1 : Int32), v6.2)
set_option maxRecDepth 100000 in
set_option maxHeartbeats 4000000 in
theorem E_X11_may_ok {n : Nat} (hn : 30000 ≤ n) {K : AK} {R : Nat → Nat → Option Nat} {S : ST} {a1 : Int32} {a2 : Int32} {a3 : Int32} {a4 : Int32} {tw en : Nat} (hL : Lay K R tw en) {o : (Int32 × ST)} (h : E_X11_may n S tw a1 a2 a3 a4 = some o) : F_X11_may n (mkM K R S) 8 a1 a2 a3 a4 = some (o.1, mkM K R o.2) := by
  unfold E_X11_may at h
  unfold F_X11_may
  refine eCV (kd_8 hL) (Nat.le_of_ble_eq_true rfl) (fun _ hv => E_X11_areTwo_ok hn hL hv) h (fun v1 h => ?_)
  refine eIF h (fun c2 h => ?_) (fun c2 h => ?_)
  · exact eLeaf (θ := (fun (o : (Int32 × ST)) => (o.1, mkM K R o.2))) h rfl
  · refine eCS (fun _ hv => E_X11_isHour_ok hn hL hv) h (fun v3 h => ?_)
    refine eIF h (fun c4 h => ?_) (fun c4 h => ?_)
    · exact eLeaf (θ := (fun (o : (Int32 × ST)) => (o.1, mkM K R o.2))) h rfl
    · refine eGR (kd_8 hL) (Nat.le_of_ble_eq_true rfl) (rd_told hL) ?_
      refine eGR (kd_8 hL) (Nat.le_of_ble_eq_true rfl) (rd_told hL) ?_
      refine eCV (kW_0 (layT hL)) (k8W 0 (layT hL)) (fun _ hv => E_X10_everybody_ok hn hL (layT hL) hv) h (fun v5 h => ?_)
      refine eCwiV (kW_0 (layT hL)) (k8W 0 (layT hL)) (fun _ hv => E_X10_allows_ok hn hL (layT hL) hv) h (fun v6 h => ?_)
      refine eIF h (fun c7 h => ?_) (fun c7 h => ?_)
      · exact eLeaf (θ := (fun (o : (Int32 × ST)) => (o.1, mkM K R o.2))) h rfl
      · exact eLeaf (θ := (fun (o : (Int32 × ST)) => (o.1, mkM K R o.2))) h rfl
-- OnlyUpward$Plan.add(IIIII)I
set_option maxRecDepth 100000 in
set_option maxHeartbeats 4000000 in
def E_X5_add (n : Nat) (S : ST) (a1 : Int32) (a2 : Int32) (a3 : Int32) (a4 : Int32) (a5 : Int32) : Option (Int32 × ST) :=
  if (S.1 72 1) < (30 : Int32) then (wr S 73 150 ((S.1 72 1) * (5 : Int32)) a1).bind fun S2 => (wr S2 73 150 (((S.1 72 1) * (5 : Int32)) + (1 : Int32)) a2).bind fun S3 => (wr S3 73 150 (((S.1 72 1) * (5 : Int32)) + (2 : Int32)) a3).bind fun S4 => (wr S4 73 150 (((S.1 72 1) * (5 : Int32)) + (3 : Int32)) a4).bind fun S5 => (wr S5 73 150 (((S.1 72 1) * (5 : Int32)) + (4 : Int32)) a5).bind fun S6 => lets (upI S6 72 1 ((S6.1 72 1) + (1 : Int32))) fun (S7 : ST) => some (((S7.1 72 1) - (1 : Int32)), S7) else some ((-1 : Int32), S)
set_option maxRecDepth 100000 in
set_option maxHeartbeats 4000000 in
theorem E_X5_add_ok {n : Nat} (hn : 30000 ≤ n) {K : AK} {R : Nat → Nat → Option Nat} {S : ST} {a1 : Int32} {a2 : Int32} {a3 : Int32} {a4 : Int32} {a5 : Int32} {tz en : Nat} (hL : Lay K R tz en) {o : (Int32 × ST)} (h : E_X5_add n S a1 a2 a3 a4 a5 = some o) : F_X5_add n (mkM K R S) 72 a1 a2 a3 a4 a5 = some (o.1, mkM K R o.2) := by
  unfold E_X5_add at h
  unfold F_X5_add
  refine eGI (kd_72 hL) (Nat.le_of_ble_eq_true rfl) ?_
  refine eIF h (fun c1 h => ?_) (fun c1 h => ?_)
  · refine eGI (kd_72 hL) (Nat.le_of_ble_eq_true rfl) ?_
    refine eGR (kd_72 hL) (Nat.le_of_ble_eq_true rfl) (rd_72_0 hL) ?_
    refine eWI (kd_73 hL) (Nat.le_of_ble_eq_true rfl) h (fun S2 h => ?_)
    refine eGR (kd_72 hL) (Nat.le_of_ble_eq_true rfl) (rd_72_0 hL) ?_
    refine eWI (kd_73 hL) (Nat.le_of_ble_eq_true rfl) h (fun S3 h => ?_)
    refine eGR (kd_72 hL) (Nat.le_of_ble_eq_true rfl) (rd_72_0 hL) ?_
    refine eWI (kd_73 hL) (Nat.le_of_ble_eq_true rfl) h (fun S4 h => ?_)
    refine eGR (kd_72 hL) (Nat.le_of_ble_eq_true rfl) (rd_72_0 hL) ?_
    refine eWI (kd_73 hL) (Nat.le_of_ble_eq_true rfl) h (fun S5 h => ?_)
    refine eGR (kd_72 hL) (Nat.le_of_ble_eq_true rfl) (rd_72_0 hL) ?_
    refine eWI (kd_73 hL) (Nat.le_of_ble_eq_true rfl) h (fun S6 h => ?_)
    refine eGI (kd_72 hL) (Nat.le_of_ble_eq_true rfl) ?_
    refine ePI (kd_72 hL) (Nat.le_of_ble_eq_true rfl) h (fun S7 h => ?_)
    refine eGI (kd_72 hL) (Nat.le_of_ble_eq_true rfl) ?_
    exact eLeaf (θ := (fun (o : (Int32 × ST)) => (o.1, mkM K R o.2))) h rfl
  · exact eLeaf (θ := (fun (o : (Int32 × ST)) => (o.1, mkM K R o.2))) h rfl
-- OnlyUpward.intoPlan(IIIII)I
set_option maxRecDepth 100000 in
set_option maxHeartbeats 4000000 in
def E_X11_intoPlan (n : Nat) (S : ST) (tw : Nat) (a1 : Int32) (a2 : Int32) (a3 : Int32) (a4 : Int32) (a5 : Int32) : Option (Int32 × ST) :=
  lets (upI S 8 10 (0 : Int32)) fun (S1 : ST) => (E_X5_add n S1 a1 a2 a3 a4 a5).bind fun v2 => some (v2.1, v2.2)
set_option maxRecDepth 100000 in
set_option maxHeartbeats 4000000 in
theorem E_X11_intoPlan_ok {n : Nat} (hn : 30000 ≤ n) {K : AK} {R : Nat → Nat → Option Nat} {S : ST} {a1 : Int32} {a2 : Int32} {a3 : Int32} {a4 : Int32} {a5 : Int32} {tw en : Nat} (hL : Lay K R tw en) {o : (Int32 × ST)} (h : E_X11_intoPlan n S tw a1 a2 a3 a4 a5 = some o) : F_X11_intoPlan n (mkM K R S) 8 a1 a2 a3 a4 a5 = some (o.1, mkM K R o.2) := by
  unfold E_X11_intoPlan at h
  unfold F_X11_intoPlan
  refine ePZ (kd_8 hL) (Nat.le_of_ble_eq_true rfl) (by decide) h (fun S1 h => ?_)
  refine eGR (kd_8 hL) (Nat.le_of_ble_eq_true rfl) (rd_8_8 hL) ?_
  refine eCwiV (kd_72 hL) (Nat.le_of_ble_eq_true rfl) (fun _ hv => E_X5_add_ok hn hL hv) h (fun v2 h => ?_)
  exact eLeaf (θ := (fun (o : (Int32 × ST)) => (o.1, mkM K R o.2))) h rfl
-- OnlyUpward.say(IIII)I
set_option maxRecDepth 100000 in
set_option maxHeartbeats 4000000 in
def E_X11_say (n : Nat) (S : ST) (tw : Nat) (a1 : Int32) (a2 : Int32) (a3 : Int32) (a4 : Int32) : Option (Int32 × ST) :=
  (E_X11_isHour n S a1).bind fun v1 => if v1 = 0 then some ((-1 : Int32), S) else (E_X11_areTwo n S tw a2 a3).bind fun v3 => if v3 = 0 then some ((-1 : Int32), S) else (E_X11_isOne n S tw (2 : Int32) a4).bind fun v5 => if v5 = 0 then some ((-1 : Int32), S) else (E_X11_intoPlan n S tw (0 : Int32) a1 a2 a3 a4).bind fun v7 => some (v7.1, v7.2)
set_option maxRecDepth 100000 in
set_option maxHeartbeats 4000000 in
theorem E_X11_say_ok {n : Nat} (hn : 30000 ≤ n) {K : AK} {R : Nat → Nat → Option Nat} {S : ST} {a1 : Int32} {a2 : Int32} {a3 : Int32} {a4 : Int32} {tw en : Nat} (hL : Lay K R tw en) {o : (Int32 × ST)} (h : E_X11_say n S tw a1 a2 a3 a4 = some o) : F_X11_say n (mkM K R S) 8 a1 a2 a3 a4 = some (o.1, mkM K R o.2) := by
  unfold E_X11_say at h
  unfold F_X11_say
  refine eCS (fun _ hv => E_X11_isHour_ok hn hL hv) h (fun v1 h => ?_)
  refine eIF h (fun c2 h => ?_) (fun c2 h => ?_)
  · exact eLeaf (θ := (fun (o : (Int32 × ST)) => (o.1, mkM K R o.2))) h rfl
  · refine eCV (kd_8 hL) (Nat.le_of_ble_eq_true rfl) (fun _ hv => E_X11_areTwo_ok hn hL hv) h (fun v3 h => ?_)
    refine eIF h (fun c4 h => ?_) (fun c4 h => ?_)
    · exact eLeaf (θ := (fun (o : (Int32 × ST)) => (o.1, mkM K R o.2))) h rfl
    · refine eCV (kd_8 hL) (Nat.le_of_ble_eq_true rfl) (fun _ hv => E_X11_isOne_ok hn hL hv) h (fun v5 h => ?_)
      refine eIF h (fun c6 h => ?_) (fun c6 h => ?_)
      · exact eLeaf (θ := (fun (o : (Int32 × ST)) => (o.1, mkM K R o.2))) h rfl
      · refine eCwiV (kd_8 hL) (Nat.le_of_ble_eq_true rfl) (fun _ hv => E_X11_intoPlan_ok hn hL hv) h (fun v7 h => ?_)
        exact eLeaf (θ := (fun (o : (Int32 × ST)) => (o.1, mkM K R o.2))) h rfl
-- OnlyUpward.show(III)I
set_option maxRecDepth 100000 in
set_option maxHeartbeats 4000000 in
def E_X11_show (n : Nat) (S : ST) (tw : Nat) (a1 : Int32) (a2 : Int32) (a3 : Int32) : Option (Int32 × ST) :=
  (E_X11_isHour n S a1).bind fun v1 => if v1 = 0 then some ((-1 : Int32), S) else (E_X11_isOne n S tw (1 : Int32) a2).bind fun v3 => if v3 = 0 then some ((-1 : Int32), S) else (E_X11_isOne n S tw (7 : Int32) a3).bind fun v5 => if v5 = 0 then some ((-1 : Int32), S) else (rd (S.1 (tw + 10)) 6 a3).bind fun v7 => (E_X11_intoPlan n S tw (1 : Int32) a1 a2 a3 v7).bind fun v8 => some (v8.1, v8.2)
set_option maxRecDepth 100000 in
set_option maxHeartbeats 4000000 in
theorem E_X11_show_ok {n : Nat} (hn : 30000 ≤ n) {K : AK} {R : Nat → Nat → Option Nat} {S : ST} {a1 : Int32} {a2 : Int32} {a3 : Int32} {tw en : Nat} (hL : Lay K R tw en) {o : (Int32 × ST)} (h : E_X11_show n S tw a1 a2 a3 = some o) : F_X11_show n (mkM K R S) 8 a1 a2 a3 = some (o.1, mkM K R o.2) := by
  unfold E_X11_show at h
  unfold F_X11_show
  refine eCS (fun _ hv => E_X11_isHour_ok hn hL hv) h (fun v1 h => ?_)
  refine eIF h (fun c2 h => ?_) (fun c2 h => ?_)
  · exact eLeaf (θ := (fun (o : (Int32 × ST)) => (o.1, mkM K R o.2))) h rfl
  · refine eCV (kd_8 hL) (Nat.le_of_ble_eq_true rfl) (fun _ hv => E_X11_isOne_ok hn hL hv) h (fun v3 h => ?_)
    refine eIF h (fun c4 h => ?_) (fun c4 h => ?_)
    · exact eLeaf (θ := (fun (o : (Int32 × ST)) => (o.1, mkM K R o.2))) h rfl
    · refine eCV (kd_8 hL) (Nat.le_of_ble_eq_true rfl) (fun _ hv => E_X11_isOne_ok hn hL hv) h (fun v5 h => ?_)
      refine eIF h (fun c6 h => ?_) (fun c6 h => ?_)
      · exact eLeaf (θ := (fun (o : (Int32 × ST)) => (o.1, mkM K R o.2))) h rfl
      · refine eGR (kd_8 hL) (Nat.le_of_ble_eq_true rfl) (rd_told hL) ?_
        refine eGR (kW_0 (layT hL)) (k8W 0 (layT hL)) (rW_0_9 (layT hL)) ?_
        refine eRI (kW_10 (layT hL)) h (fun v7 h => ?_)
        refine eCwiV (kd_8 hL) (Nat.le_of_ble_eq_true rfl) (fun _ hv => E_X11_intoPlan_ok hn hL hv) h (fun v8 h => ?_)
        exact eLeaf (θ := (fun (o : (Int32 × ST)) => (o.1, mkM K R o.2))) h rfl
-- OnlyUpward.leave(III)I
set_option maxRecDepth 100000 in
set_option maxHeartbeats 4000000 in
def E_X11_leave (n : Nat) (S : ST) (tw : Nat) (a1 : Int32) (a2 : Int32) (a3 : Int32) : Option (Int32 × ST) :=
  (E_X11_isHour n S a1).bind fun v1 => if v1 = 0 then some ((-1 : Int32), S) else (E_X11_isOne n S tw (1 : Int32) a2).bind fun v3 => if v3 = 0 then some ((-1 : Int32), S) else (E_X11_isOne n S tw (2 : Int32) a3).bind fun v5 => if v5 = 0 then some ((-1 : Int32), S) else (E_X11_intoPlan n S tw (2 : Int32) a1 a2 (-1 : Int32) a3).bind fun v7 => some (v7.1, v7.2)
set_option maxRecDepth 100000 in
set_option maxHeartbeats 4000000 in
theorem E_X11_leave_ok {n : Nat} (hn : 30000 ≤ n) {K : AK} {R : Nat → Nat → Option Nat} {S : ST} {a1 : Int32} {a2 : Int32} {a3 : Int32} {tw en : Nat} (hL : Lay K R tw en) {o : (Int32 × ST)} (h : E_X11_leave n S tw a1 a2 a3 = some o) : F_X11_leave n (mkM K R S) 8 a1 a2 a3 = some (o.1, mkM K R o.2) := by
  unfold E_X11_leave at h
  unfold F_X11_leave
  refine eCS (fun _ hv => E_X11_isHour_ok hn hL hv) h (fun v1 h => ?_)
  refine eIF h (fun c2 h => ?_) (fun c2 h => ?_)
  · exact eLeaf (θ := (fun (o : (Int32 × ST)) => (o.1, mkM K R o.2))) h rfl
  · refine eCV (kd_8 hL) (Nat.le_of_ble_eq_true rfl) (fun _ hv => E_X11_isOne_ok hn hL hv) h (fun v3 h => ?_)
    refine eIF h (fun c4 h => ?_) (fun c4 h => ?_)
    · exact eLeaf (θ := (fun (o : (Int32 × ST)) => (o.1, mkM K R o.2))) h rfl
    · refine eCV (kd_8 hL) (Nat.le_of_ble_eq_true rfl) (fun _ hv => E_X11_isOne_ok hn hL hv) h (fun v5 h => ?_)
      refine eIF h (fun c6 h => ?_) (fun c6 h => ?_)
      · exact eLeaf (θ := (fun (o : (Int32 × ST)) => (o.1, mkM K R o.2))) h rfl
      · refine eCwiV (kd_8 hL) (Nat.le_of_ble_eq_true rfl) (fun _ hv => E_X11_intoPlan_ok hn hL hv) h (fun v7 h => ?_)
        exact eLeaf (θ := (fun (o : (Int32 × ST)) => (o.1, mkM K R o.2))) h rfl
-- OnlyUpward.ask(IIII)I
set_option maxRecDepth 100000 in
set_option maxHeartbeats 4000000 in
def E_X11_ask (n : Nat) (S : ST) (tw : Nat) (a1 : Int32) (a2 : Int32) (a3 : Int32) (a4 : Int32) : Option (Int32 × ST) :=
  (E_X11_isHour n S a1).bind fun v1 => if v1 = 0 then some ((-1 : Int32), S) else (E_X11_areTwo n S tw a2 a3).bind fun v3 => if v3 = 0 then some ((-1 : Int32), S) else (E_X11_isOne n S tw (2 : Int32) a4).bind fun v5 => if v5 = 0 then some ((-1 : Int32), S) else (E_X11_intoPlan n S tw (3 : Int32) a1 a2 a3 a4).bind fun v7 => some (v7.1, v7.2)
set_option maxRecDepth 100000 in
set_option maxHeartbeats 4000000 in
theorem E_X11_ask_ok {n : Nat} (hn : 30000 ≤ n) {K : AK} {R : Nat → Nat → Option Nat} {S : ST} {a1 : Int32} {a2 : Int32} {a3 : Int32} {a4 : Int32} {tw en : Nat} (hL : Lay K R tw en) {o : (Int32 × ST)} (h : E_X11_ask n S tw a1 a2 a3 a4 = some o) : F_X11_ask n (mkM K R S) 8 a1 a2 a3 a4 = some (o.1, mkM K R o.2) := by
  unfold E_X11_ask at h
  unfold F_X11_ask
  refine eCS (fun _ hv => E_X11_isHour_ok hn hL hv) h (fun v1 h => ?_)
  refine eIF h (fun c2 h => ?_) (fun c2 h => ?_)
  · exact eLeaf (θ := (fun (o : (Int32 × ST)) => (o.1, mkM K R o.2))) h rfl
  · refine eCV (kd_8 hL) (Nat.le_of_ble_eq_true rfl) (fun _ hv => E_X11_areTwo_ok hn hL hv) h (fun v3 h => ?_)
    refine eIF h (fun c4 h => ?_) (fun c4 h => ?_)
    · exact eLeaf (θ := (fun (o : (Int32 × ST)) => (o.1, mkM K R o.2))) h rfl
    · refine eCV (kd_8 hL) (Nat.le_of_ble_eq_true rfl) (fun _ hv => E_X11_isOne_ok hn hL hv) h (fun v5 h => ?_)
      refine eIF h (fun c6 h => ?_) (fun c6 h => ?_)
      · exact eLeaf (θ := (fun (o : (Int32 × ST)) => (o.1, mkM K R o.2))) h rfl
      · refine eCwiV (kd_8 hL) (Nat.le_of_ble_eq_true rfl) (fun _ hv => E_X11_intoPlan_ok hn hL hv) h (fun v7 h => ?_)
        exact eLeaf (θ := (fun (o : (Int32 × ST)) => (o.1, mkM K R o.2))) h rfl
-- OnlyUpward$Plan.has(I)Z
set_option maxRecDepth 100000 in
set_option maxHeartbeats 4000000 in
def E_X5_has (n : Nat) (S : ST) (a1 : Int32) : Option Int32 :=
  if a1 < 0 then some (0 : Int32) else if (S.1 72 1) ≤ a1 then some (0 : Int32) else some (1 : Int32)
set_option maxRecDepth 100000 in
set_option maxHeartbeats 4000000 in
theorem E_X5_has_ok {n : Nat} (hn : 30000 ≤ n) {K : AK} {R : Nat → Nat → Option Nat} {S : ST} {a1 : Int32} {tz en : Nat} (hL : Lay K R tz en) {o : Int32} (h : E_X5_has n S a1 = some o) : F_X5_has n (mkM K R S) 72 a1 = some o := by
  unfold E_X5_has at h
  unfold F_X5_has
  refine eIF h (fun c1 h => ?_) (fun c1 h => ?_)
  · exact eLeaf (θ := (fun (o : Int32) => o)) h rfl
  · refine eGI (kd_72 hL) (Nat.le_of_ble_eq_true rfl) ?_
    refine eIF h (fun c2 h => ?_) (fun c2 h => ?_)
    · exact eLeaf (θ := (fun (o : Int32) => o)) h rfl
    · exact eLeaf (θ := (fun (o : Int32) => o)) h rfl
-- OnlyUpward$Plan.remove(I)V
set_option maxRecDepth 100000 in
set_option maxHeartbeats 4000000 in
def E_X5_remove (n : Nat) (S : ST) (a1 : Int32) : Option ST :=
  (E_X5_has n S a1).bind fun v1 => if v1 = 0 then some S else (cpS S 73 150 ((a1 + (1 : Int32)) * (5 : Int32)) 73 150 (a1 * (5 : Int32)) (((S.1 72 1) * (5 : Int32)) - ((a1 + (1 : Int32)) * (5 : Int32)))).bind fun S3 => lets (upI S3 72 1 ((S3.1 72 1) - (1 : Int32))) fun (S4 : ST) => some S4
set_option maxRecDepth 100000 in
set_option maxHeartbeats 4000000 in
theorem E_X5_remove_ok {n : Nat} (hn : 30000 ≤ n) {K : AK} {R : Nat → Nat → Option Nat} {S : ST} {a1 : Int32} {tz en : Nat} (hL : Lay K R tz en) {o : ST} (h : E_X5_remove n S a1 = some o) : F_X5_remove n (mkM K R S) 72 a1 = some (mkM K R o) := by
  unfold E_X5_remove at h
  unfold F_X5_remove
  refine eCV (kd_72 hL) (Nat.le_of_ble_eq_true rfl) (fun _ hv => E_X5_has_ok hn hL hv) h (fun v1 h => ?_)
  refine eIF h (fun c2 h => ?_) (fun c2 h => ?_)
  · exact eLeaf (θ := (fun (o : ST) => (mkM K R o))) h rfl
  · refine eGR (kd_72 hL) (Nat.le_of_ble_eq_true rfl) (rd_72_0 hL) ?_
    refine eGR (kd_72 hL) (Nat.le_of_ble_eq_true rfl) (rd_72_0 hL) ?_
    refine eGI (kd_72 hL) (Nat.le_of_ble_eq_true rfl) ?_
    refine eCP (kd_73 hL) (kd_73 hL) (Nat.le_of_ble_eq_true rfl) (Nat.le_of_ble_eq_true rfl) h (fun S3 h => ?_)
    refine eGI (kd_72 hL) (Nat.le_of_ble_eq_true rfl) ?_
    refine ePI (kd_72 hL) (Nat.le_of_ble_eq_true rfl) h (fun S4 h => ?_)
    exact eLeaf (θ := (fun (o : ST) => (mkM K R o))) h rfl
-- OnlyUpward.drop(I)I
set_option maxRecDepth 100000 in
set_option maxHeartbeats 4000000 in
def E_X11_drop (n : Nat) (S : ST) (tw : Nat) (a1 : Int32) : Option (Int32 × ST) :=
  (E_X5_has n S a1).bind fun v1 => if v1 = 0 then some ((-1 : Int32), S) else lets (upI S 8 10 (0 : Int32)) fun (S3 : ST) => (E_X5_remove n S3 a1).bind fun S5 => some ((S5.1 72 1), S5)
set_option maxRecDepth 100000 in
set_option maxHeartbeats 4000000 in
theorem E_X11_drop_ok {n : Nat} (hn : 30000 ≤ n) {K : AK} {R : Nat → Nat → Option Nat} {S : ST} {a1 : Int32} {tw en : Nat} (hL : Lay K R tw en) {o : (Int32 × ST)} (h : E_X11_drop n S tw a1 = some o) : F_X11_drop n (mkM K R S) 8 a1 = some (o.1, mkM K R o.2) := by
  unfold E_X11_drop at h
  unfold F_X11_drop
  refine eGR (kd_8 hL) (Nat.le_of_ble_eq_true rfl) (rd_8_8 hL) ?_
  refine eCV (kd_72 hL) (Nat.le_of_ble_eq_true rfl) (fun _ hv => E_X5_has_ok hn hL hv) h (fun v1 h => ?_)
  refine eIF h (fun c2 h => ?_) (fun c2 h => ?_)
  · exact eLeaf (θ := (fun (o : (Int32 × ST)) => (o.1, mkM K R o.2))) h rfl
  · refine ePZ (kd_8 hL) (Nat.le_of_ble_eq_true rfl) (by decide) h (fun S3 h => ?_)
    refine eGR (kd_8 hL) (Nat.le_of_ble_eq_true rfl) (rd_8_8 hL) ?_
    refine eCwV (kd_72 hL) (Nat.le_of_ble_eq_true rfl) (fun _ hv => E_X5_remove_ok hn hL hv) h (fun S5 h => ?_)
    refine eGR (kd_8 hL) (Nat.le_of_ble_eq_true rfl) (rd_8_8 hL) ?_
    refine eGI (kd_72 hL) (Nat.le_of_ble_eq_true rfl) ?_
    exact eLeaf (θ := (fun (o : (Int32 × ST)) => (o.1, mkM K R o.2))) h rfl
-- OnlyUpward$Course.nobodyDies()V
set_option maxRecDepth 100000 in
set_option maxHeartbeats 4000000 in
def E_X1_nobodyDies (n : Nat) (S : ST) (c : Nat) : Option ST :=
  lets (fillS S (c + 5) 10 (99 : Int32)) fun (S1 : ST) => some S1
set_option maxRecDepth 100000 in
set_option maxHeartbeats 4000000 in
theorem E_X1_nobodyDies_ok {n : Nat} (hn : 30000 ≤ n) {K : AK} {R : Nat → Nat → Option Nat} {S : ST} {c : Nat} {tz en : Nat} (hL : Lay K R tz en) (hc : LC K R c) {o : ST} (h : E_X1_nobodyDies n S c = some o) : F_X1_nobodyDies n (mkM K R S) c = some (mkM K R o) := by
  unfold E_X1_nobodyDies at h
  unfold F_X1_nobodyDies
  refine eGR (kC_0 hc) (k8C 0 hc) (rC_0_3 hc) ?_
  refine eFL (by omega) (kC_5 hc) (k8C 5 hc) h (fun S1 h => ?_)
  exact eLeaf (θ := (fun (o : ST) => (mkM K R o))) h rfl
-- OnlyUpward$Knowledge.begin(LOnlyUpward$World;)V
set_option maxRecDepth 100000 in
set_option maxHeartbeats 4000000 in
def E_X3_begin (n : Nat) (S : ST) (k : Nat) (w : Nat) : Option ST :=
  (iter (fun (s1 : Int32 × ST) => if (10 : Int32) ≤ s1.1 then some (.inr s1.2) else (iter (fun (s3 : Int32 × ST) => if (6 : Int32) ≤ s3.1 then some (.inr s3.2) else (rd (s3.2.1 (w + 6)) 10 s1.1).bind fun v5 => (E_X11_hasBit n s3.2 v5 s3.1).bind fun v6 => jn (fun (u7 : Int32) => (wr s3.2 (k + 1) 60 ((s1.1 * (6 : Int32)) + s3.1) u7).bind fun S8 => some (.inl ((s3.1 + (1 : Int32)), S8))) fun j9 => if v6 = 0 then j9 (99 : Int32) else j9 (0 : Int32)) n ((0 : Int32), s1.2)).bind fun (e3 : ST) => some (.inl ((s1.1 + (1 : Int32)), e3))) n ((0 : Int32), S)).bind fun (e1 : ST) => some e1
set_option maxRecDepth 100000 in
set_option maxHeartbeats 4000000 in
theorem E_X3_begin_ok {n : Nat} (hn : 30000 ≤ n) {K : AK} {R : Nat → Nat → Option Nat} {S : ST} {k : Nat} {w : Nat} {tz en : Nat} (hL : Lay K R tz en) (hk : LN K R k) (hw : LW K R w) {o : ST} (h : E_X3_begin n S k w = some o) : F_X3_begin n (mkM K R S) k w = some (mkM K R o) := by
  unfold E_X3_begin at h
  unfold F_X3_begin
  refine eLP (fun (s1 : Int32 × ST) => (s1.1, mkM K R s1.2)) (fun (e1 : ST) => mkM K R e1) h rfl ?_ ?_
  · intro s1 x1 h
    refine eIF h (fun c2 h => ?_) (fun c2 h => ?_)
    · exact eLeaf (θ := (Sum.map (fun (s1 : Int32 × ST) => (s1.1, mkM K R s1.2)) (fun (e1 : ST) => mkM K R e1))) h rfl
    · refine eLP (fun (s3 : Int32 × ST) => (s3.1, mkM K R s3.2)) (fun (e3 : ST) => mkM K R e3) h rfl ?_ ?_
      · intro s3 x3 h
        refine eIF h (fun c4 h => ?_) (fun c4 h => ?_)
        · exact eLeaf (θ := (Sum.map (fun (s3 : Int32 × ST) => (s3.1, mkM K R s3.2)) (fun (e3 : ST) => mkM K R e3))) h rfl
        · refine eGR (kN_0 hk) (k8N 0 hk) (rN_0_0 hk) ?_
          refine eGR (kW_0 hw) (k8W 0 hw) (rW_0_5 hw) ?_
          refine eRI (kW_6 hw) h (fun v5 h => ?_)
          refine eCS (fun _ hv => E_X11_hasBit_ok hn hL hv) h (fun v6 h => ?_)
          refine eJN (fun j9 fj9 => ∀ (u7 : Int32), j9 u7 = some x3 → fj9 u7 = some (Sum.map (fun (s3 : Int32 × ST) => (s3.1, mkM K R s3.2)) (fun (e3 : ST) => mkM K R e3) x3)) h ?_ ?_
          · intro u7 h
            refine eWI (kN_1 hk) (k8N 1 hk) h (fun S8 h => ?_)
            exact eLeaf (θ := (Sum.map (fun (s3 : Int32 × ST) => (s3.1, mkM K R s3.2)) (fun (e3 : ST) => mkM K R e3))) h rfl
          · intro j9 fj9 Jj9 h
            refine eIF h (fun c10 h => ?_) (fun c10 h => ?_)
            · exact Jj9 _ h
            · exact Jj9 _ h
      · intro e3 h
        exact eLeaf (θ := (Sum.map (fun (s1 : Int32 × ST) => (s1.1, mkM K R s1.2)) (fun (e1 : ST) => mkM K R e1))) h rfl
  · intro e1 h
    exact eLeaf (θ := (fun (o : ST) => (mkM K R o))) h rfl
-- OnlyUpward$Course.aliveAt(ILOnlyUpward$World;)I
set_option maxRecDepth 100000 in
set_option maxHeartbeats 4000000 in
def E_X1_aliveAt (n : Nat) (S : ST) (c : Nat) (w : Nat) (a1 : Int32) : Option Int32 :=
  (iter (fun (s1 : Int32 × Int32) => (rd (S.1 (w + 1)) 11 (1 : Int32)).bind fun v2 => if v2 ≤ s1.2 then some (.inr s1.1) else (rd (S.1 (c + 5)) 10 s1.2).bind fun v4 => jn (fun (u5 : Int32) => some (.inl (u5, (s1.2 + (1 : Int32))))) fun j6 => if v4 ≤ a1 then j6 s1.1 else j6 (s1.1 ||| ((1 : Int32) <<< (s1.2 &&& 31)))) n ((0 : Int32), (0 : Int32))).bind fun (e1 : Int32) => some e1
set_option maxRecDepth 100000 in
set_option maxHeartbeats 4000000 in
theorem E_X1_aliveAt_ok {n : Nat} (hn : 30000 ≤ n) {K : AK} {R : Nat → Nat → Option Nat} {S : ST} {c : Nat} {w : Nat} {a1 : Int32} {tz en : Nat} (hL : Lay K R tz en) (hc : LC K R c) (hw : LW K R w) {o : Int32} (h : E_X1_aliveAt n S c w a1 = some o) : F_X1_aliveAt n (mkM K R S) c a1 w = some o := by
  unfold E_X1_aliveAt at h
  unfold F_X1_aliveAt
  refine eLP (fun (s1 : Int32 × Int32) => s1) (fun (e1 : Int32) => e1) h rfl ?_ ?_
  · intro s1 x1 h
    refine eGR (kW_0 hw) (k8W 0 hw) (rW_0_0 hw) ?_
    refine eRI (kW_1 hw) h (fun v2 h => ?_)
    refine eIF h (fun c3 h => ?_) (fun c3 h => ?_)
    · exact eLeaf (θ := (Sum.map (fun (s1 : Int32 × Int32) => s1) (fun (e1 : Int32) => e1))) h rfl
    · refine eGR (kC_0 hc) (k8C 0 hc) (rC_0_3 hc) ?_
      refine eRI (kC_5 hc) h (fun v4 h => ?_)
      refine eJN (fun j6 fj6 => ∀ (u5 : Int32), j6 u5 = some x1 → fj6 u5 = some (Sum.map (fun (s1 : Int32 × Int32) => s1) (fun (e1 : Int32) => e1) x1)) h ?_ ?_
      · intro u5 h
        exact eLeaf (θ := (Sum.map (fun (s1 : Int32 × Int32) => s1) (fun (e1 : Int32) => e1))) h rfl
      · intro j6 fj6 Jj6 h
        refine eIF h (fun c7 h => ?_) (fun c7 h => ?_)
        · exact Jj6 _ h
        · exact Jj6 _ h
  · intro e1 h
    exact eLeaf (θ := (fun (o : Int32) => o)) h rfl
-- OnlyUpward$Plan.part(II)I
set_option maxRecDepth 100000 in
set_option maxHeartbeats 4000000 in
def E_X5_part (n : Nat) (S : ST) (a1 : Int32) (a2 : Int32) : Option Int32 :=
  (rd (S.1 73) 150 ((a1 * (5 : Int32)) + a2)).bind fun v1 => some v1
set_option maxRecDepth 100000 in
set_option maxHeartbeats 4000000 in
theorem E_X5_part_ok {n : Nat} (hn : 30000 ≤ n) {K : AK} {R : Nat → Nat → Option Nat} {S : ST} {a1 : Int32} {a2 : Int32} {tz en : Nat} (hL : Lay K R tz en) {o : Int32} (h : E_X5_part n S a1 a2 = some o) : F_X5_part n (mkM K R S) 72 a1 a2 = some o := by
  unfold E_X5_part at h
  unfold F_X5_part
  refine eGR (kd_72 hL) (Nat.le_of_ble_eq_true rfl) (rd_72_0 hL) ?_
  refine eRI (kd_73 hL) h (fun v1 h => ?_)
  exact eLeaf (θ := (fun (o : Int32) => o)) h rfl
-- OnlyUpward$Plan.hour(I)I
set_option maxRecDepth 100000 in
set_option maxHeartbeats 4000000 in
def E_X5_hour (n : Nat) (S : ST) (a1 : Int32) : Option Int32 :=
  (E_X5_part n S a1 (1 : Int32)).bind fun v1 => some v1
set_option maxRecDepth 100000 in
set_option maxHeartbeats 4000000 in
theorem E_X5_hour_ok {n : Nat} (hn : 30000 ≤ n) {K : AK} {R : Nat → Nat → Option Nat} {S : ST} {a1 : Int32} {tz en : Nat} (hL : Lay K R tz en) {o : Int32} (h : E_X5_hour n S a1 = some o) : F_X5_hour n (mkM K R S) 72 a1 = some o := by
  unfold E_X5_hour at h
  unfold F_X5_hour
  refine eCV (kd_72 hL) (Nat.le_of_ble_eq_true rfl) (fun _ hv => E_X5_part_ok hn hL hv) h (fun v1 h => ?_)
  exact eLeaf (θ := (fun (o : Int32) => o)) h rfl
-- OnlyUpward$Plan.person(I)I
set_option maxRecDepth 100000 in
set_option maxHeartbeats 4000000 in
def E_X5_person (n : Nat) (S : ST) (a1 : Int32) : Option Int32 :=
  (E_X5_part n S a1 (2 : Int32)).bind fun v1 => some v1
set_option maxRecDepth 100000 in
set_option maxHeartbeats 4000000 in
theorem E_X5_person_ok {n : Nat} (hn : 30000 ≤ n) {K : AK} {R : Nat → Nat → Option Nat} {S : ST} {a1 : Int32} {tz en : Nat} (hL : Lay K R tz en) {o : Int32} (h : E_X5_person n S a1 = some o) : F_X5_person n (mkM K R S) 72 a1 = some o := by
  unfold E_X5_person at h
  unfold F_X5_person
  refine eCV (kd_72 hL) (Nat.le_of_ble_eq_true rfl) (fun _ hv => E_X5_part_ok hn hL hv) h (fun v1 h => ?_)
  exact eLeaf (θ := (fun (o : Int32) => o)) h rfl
-- OnlyUpward$Plan.sort(I)I
set_option maxRecDepth 100000 in
set_option maxHeartbeats 4000000 in
def E_X5_sort (n : Nat) (S : ST) (a1 : Int32) : Option Int32 :=
  (E_X5_part n S a1 (0 : Int32)).bind fun v1 => some v1
set_option maxRecDepth 100000 in
set_option maxHeartbeats 4000000 in
theorem E_X5_sort_ok {n : Nat} (hn : 30000 ≤ n) {K : AK} {R : Nat → Nat → Option Nat} {S : ST} {a1 : Int32} {tz en : Nat} (hL : Lay K R tz en) {o : Int32} (h : E_X5_sort n S a1 = some o) : F_X5_sort n (mkM K R S) 72 a1 = some o := by
  unfold E_X5_sort at h
  unfold F_X5_sort
  refine eCV (kd_72 hL) (Nat.le_of_ble_eq_true rfl) (fun _ hv => E_X5_part_ok hn hL hv) h (fun v1 h => ?_)
  exact eLeaf (θ := (fun (o : Int32) => o)) h rfl
-- OnlyUpward$Plan.isSecond(I)Z
set_option maxRecDepth 100000 in
set_option maxHeartbeats 4000000 in
def E_X5_isSecond (n : Nat) (S : ST) (a1 : Int32) : Option Int32 :=
  (iter (fun (s1 : Int32) => if a1 ≤ s1 then some (.inr (.inl ())) else (E_X5_hour n S s1).bind fun v3 => (E_X5_hour n S a1).bind fun v4 => jn (some (.inl (s1 + (1 : Int32)))) fun j5 => if v3 = v4 then (E_X5_person n S s1).bind fun v7 => (E_X5_person n S a1).bind fun v8 => if v7 = v8 then some (.inr (.inr (1 : Int32))) else j5 else j5) n (0 : Int32)).bind fun (z1 : (Unit) ⊕ Int32) => Sum.elim (fun (e1 : Unit) => some (0 : Int32)) (fun (v : Int32) => some v) z1
set_option maxRecDepth 100000 in
set_option maxHeartbeats 4000000 in
theorem E_X5_isSecond_ok {n : Nat} (hn : 30000 ≤ n) {K : AK} {R : Nat → Nat → Option Nat} {S : ST} {a1 : Int32} {tz en : Nat} (hL : Lay K R tz en) {o : Int32} (h : E_X5_isSecond n S a1 = some o) : F_X5_isSecond n (mkM K R S) 72 a1 = some o := by
  unfold E_X5_isSecond at h
  unfold F_X5_isSecond
  refine eLP (fun (s1 : Int32) => s1) (Sum.map (fun (e1 : Unit) => e1) (fun (v : Int32) => v)) h rfl ?_ ?_
  · intro s1 x1 h
    refine eIF h (fun c2 h => ?_) (fun c2 h => ?_)
    · exact eLeaf (θ := (Sum.map (fun (s1 : Int32) => s1) (Sum.map (fun (e1 : Unit) => e1) (fun (v : Int32) => v)))) h rfl
    · refine eCV (kd_72 hL) (Nat.le_of_ble_eq_true rfl) (fun _ hv => E_X5_hour_ok hn hL hv) h (fun v3 h => ?_)
      refine eCV (kd_72 hL) (Nat.le_of_ble_eq_true rfl) (fun _ hv => E_X5_hour_ok hn hL hv) h (fun v4 h => ?_)
      refine eJN (fun j5 fj5 => j5 = some x1 → fj5 = some (Sum.map (fun (s1 : Int32) => s1) (Sum.map (fun (e1 : Unit) => e1) (fun (v : Int32) => v)) x1)) h ?_ ?_
      · intro h
        exact eLeaf (θ := (Sum.map (fun (s1 : Int32) => s1) (Sum.map (fun (e1 : Unit) => e1) (fun (v : Int32) => v)))) h rfl
      · intro j5 fj5 Jj5 h
        refine eIF h (fun c6 h => ?_) (fun c6 h => ?_)
        · refine eCV (kd_72 hL) (Nat.le_of_ble_eq_true rfl) (fun _ hv => E_X5_person_ok hn hL hv) h (fun v7 h => ?_)
          refine eCV (kd_72 hL) (Nat.le_of_ble_eq_true rfl) (fun _ hv => E_X5_person_ok hn hL hv) h (fun v8 h => ?_)
          refine eIF h (fun c9 h => ?_) (fun c9 h => ?_)
          · exact eLeaf (θ := (Sum.map (fun (s1 : Int32) => s1) (Sum.map (fun (e1 : Unit) => e1) (fun (v : Int32) => v)))) h rfl
          · exact Jj5 h
        · exact Jj5 h
  · intro z1 h
    rcases z1 with e1 | v
    · have h := sum_inl h
      exact eLeaf (θ := (fun (o : Int32) => o)) h rfl
    · have h := sum_inr h
      exact eLeaf (θ := (fun (o : Int32) => o)) h rfl
-- OnlyUpward$Plan.other(I)I
set_option maxRecDepth 100000 in
set_option maxHeartbeats 4000000 in
def E_X5_other (n : Nat) (S : ST) (a1 : Int32) : Option Int32 :=
  (E_X5_part n S a1 (3 : Int32)).bind fun v1 => some v1
set_option maxRecDepth 100000 in
set_option maxHeartbeats 4000000 in
theorem E_X5_other_ok {n : Nat} (hn : 30000 ≤ n) {K : AK} {R : Nat → Nat → Option Nat} {S : ST} {a1 : Int32} {tz en : Nat} (hL : Lay K R tz en) {o : Int32} (h : E_X5_other n S a1 = some o) : F_X5_other n (mkM K R S) 72 a1 = some o := by
  unfold E_X5_other at h
  unfold F_X5_other
  refine eCV (kd_72 hL) (Nat.le_of_ble_eq_true rfl) (fun _ hv => E_X5_part_ok hn hL hv) h (fun v1 h => ?_)
  exact eLeaf (θ := (fun (o : Int32) => o)) h rfl
-- OnlyUpward$Plan.thing(I)I
set_option maxRecDepth 100000 in
set_option maxHeartbeats 4000000 in
def E_X5_thing (n : Nat) (S : ST) (a1 : Int32) : Option Int32 :=
  (E_X5_part n S a1 (4 : Int32)).bind fun v1 => some v1
set_option maxRecDepth 100000 in
set_option maxHeartbeats 4000000 in
theorem E_X5_thing_ok {n : Nat} (hn : 30000 ≤ n) {K : AK} {R : Nat → Nat → Option Nat} {S : ST} {a1 : Int32} {tz en : Nat} (hL : Lay K R tz en) {o : Int32} (h : E_X5_thing n S a1 = some o) : F_X5_thing n (mkM K R S) 72 a1 = some o := by
  unfold E_X5_thing at h
  unfold F_X5_thing
  refine eCV (kd_72 hL) (Nat.le_of_ble_eq_true rfl) (fun _ hv => E_X5_part_ok hn hL hv) h (fun v1 h => ?_)
  exact eLeaf (θ := (fun (o : Int32) => o)) h rfl
-- OnlyUpward$Knowledge.firstHour(II)I
set_option maxRecDepth 100000 in
set_option maxHeartbeats 4000000 in
def E_X3_firstHour (n : Nat) (S : ST) (k : Nat) (a1 : Int32) (a2 : Int32) : Option Int32 :=
  (rd (S.1 (k + 1)) 60 ((a1 * (6 : Int32)) + a2)).bind fun v1 => some v1
set_option maxRecDepth 100000 in
set_option maxHeartbeats 4000000 in
theorem E_X3_firstHour_ok {n : Nat} (hn : 30000 ≤ n) {K : AK} {R : Nat → Nat → Option Nat} {S : ST} {k : Nat} {a1 : Int32} {a2 : Int32} {tz en : Nat} (hL : Lay K R tz en) (hk : LN K R k) {o : Int32} (h : E_X3_firstHour n S k a1 a2 = some o) : F_X3_firstHour n (mkM K R S) k a1 a2 = some o := by
  unfold E_X3_firstHour at h
  unfold F_X3_firstHour
  refine eGR (kN_0 hk) (k8N 0 hk) (rN_0_0 hk) ?_
  refine eRI (kN_1 hk) h (fun v1 h => ?_)
  exact eLeaf (θ := (fun (o : Int32) => o)) h rfl
-- OnlyUpward$Knowledge.has(III)Z
set_option maxRecDepth 100000 in
set_option maxHeartbeats 4000000 in
def E_X3_has (n : Nat) (S : ST) (k : Nat) (a1 : Int32) (a2 : Int32) (a3 : Int32) : Option Int32 :=
  (E_X3_firstHour n S k a1 a2).bind fun v1 => if a3 < v1 then some (0 : Int32) else some (1 : Int32)
set_option maxRecDepth 100000 in
set_option maxHeartbeats 4000000 in
theorem E_X3_has_ok {n : Nat} (hn : 30000 ≤ n) {K : AK} {R : Nat → Nat → Option Nat} {S : ST} {k : Nat} {a1 : Int32} {a2 : Int32} {a3 : Int32} {tz en : Nat} (hL : Lay K R tz en) (hk : LN K R k) {o : Int32} (h : E_X3_has n S k a1 a2 a3 = some o) : F_X3_has n (mkM K R S) k a1 a2 a3 = some o := by
  unfold E_X3_has at h
  unfold F_X3_has
  refine eCV (kN_0 hk) (k8N 0 hk) (fun _ hv => E_X3_firstHour_ok hn hL hk hv) h (fun v1 h => ?_)
  refine eIF h (fun c2 h => ?_) (fun c2 h => ?_)
  · exact eLeaf (θ := (fun (o : Int32) => o)) h rfl
  · exact eLeaf (θ := (fun (o : Int32) => o)) h rfl
-- OnlyUpward$Course.whyNot(LOnlyUpward$World;LOnlyUpward$Plan;II)I
set_option maxRecDepth 100000 in
set_option maxHeartbeats 4000000 in
def E_X1_whyNot (n : Nat) (S : ST) (c : Nat) (w : Nat) (a3 : Int32) (a4 : Int32) : Option (Int32 × ST) :=
  (E_X5_person n S a3).bind fun v1 => (E_X5_hour n S a3).bind fun v2 => (E_X5_sort n S a3).bind fun v3 => (E_X11_hasBit n S a4 v1).bind fun v4 => if v4 = 0 then some ((5 : Int32), S) else (E_X5_isSecond n S a3).bind fun v6 => if v6 = 0 then jn (fun (u8 : Int32) => (E_X10_placeOf n S w v1 v2).bind fun v9 => (E_X10_standers n S w v9 v2).bind fun v10 => if (v10 &&& a4) = 0 then some ((2 : Int32), S) else jn (jn (if u8 = 0 then some ((0 : Int32), S) else (E_X5_other n S a3).bind fun v13 => jn (fun (u14 : Int32) => (E_X10_allows n S w v1 v13 v2 u14 a4).bind fun v15 => if v15.1 = 0 then some ((4 : Int32), v15.2) else some ((0 : Int32), v15.2)) fun j17 => if v3 = (3 : Int32) then j17 (1 : Int32) else j17 (0 : Int32)) fun j19 => if v3 = (3 : Int32) then j19 else (E_X5_thing n S a3).bind fun v21 => (E_X3_has n S (c + 1) v1 v21 v2).bind fun v22 => if v22 = 0 then some ((3 : Int32), S) else j19) fun j24 => if u8 = 0 then j24 else (E_X5_other n S a3).bind fun v26 => (E_X11_hasBit n S (v10 &&& a4) v26).bind fun v27 => if v27 = 0 then some ((2 : Int32), S) else j24) fun j29 => jn (j29 (1 : Int32)) fun j30 => if v3 = 0 then j30 else if v3 = (3 : Int32) then j30 else j29 (0 : Int32) else some ((1 : Int32), S)
set_option maxRecDepth 100000 in
set_option maxHeartbeats 4000000 in
theorem E_X1_whyNot_ok {n : Nat} (hn : 30000 ≤ n) {K : AK} {R : Nat → Nat → Option Nat} {S : ST} {c : Nat} {w : Nat} {a3 : Int32} {a4 : Int32} {tz en : Nat} (hL : Lay K R tz en) (hc : LC K R c) (hw : LW K R w) {o : (Int32 × ST)} (h : E_X1_whyNot n S c w a3 a4 = some o) : F_X1_whyNot n (mkM K R S) c w 72 a3 a4 = some (o.1, mkM K R o.2) := by
  unfold E_X1_whyNot at h
  unfold F_X1_whyNot
  refine eCV (kd_72 hL) (Nat.le_of_ble_eq_true rfl) (fun _ hv => E_X5_person_ok hn hL hv) h (fun v1 h => ?_)
  refine eCV (kd_72 hL) (Nat.le_of_ble_eq_true rfl) (fun _ hv => E_X5_hour_ok hn hL hv) h (fun v2 h => ?_)
  refine eCV (kd_72 hL) (Nat.le_of_ble_eq_true rfl) (fun _ hv => E_X5_sort_ok hn hL hv) h (fun v3 h => ?_)
  refine eCS (fun _ hv => E_X11_hasBit_ok hn hL hv) h (fun v4 h => ?_)
  refine eIF h (fun c5 h => ?_) (fun c5 h => ?_)
  · exact eLeaf (θ := (fun (o : (Int32 × ST)) => (o.1, mkM K R o.2))) h rfl
  · refine eCV (kd_72 hL) (Nat.le_of_ble_eq_true rfl) (fun _ hv => E_X5_isSecond_ok hn hL hv) h (fun v6 h => ?_)
    refine eIF h (fun c7 h => ?_) (fun c7 h => ?_)
    · refine eJN (fun j29 fj29 => ∀ (u8 : Int32), j29 u8 = some o → fj29 u8 = some (o.1, mkM K R o.2)) h ?_ ?_
      · intro u8 h
        refine eCV (kW_0 hw) (k8W 0 hw) (fun _ hv => E_X10_placeOf_ok hn hL hw hv) h (fun v9 h => ?_)
        refine eCV (kW_0 hw) (k8W 0 hw) (fun _ hv => E_X10_standers_ok hn hL hw hv) h (fun v10 h => ?_)
        refine eIF h (fun c11 h => ?_) (fun c11 h => ?_)
        · exact eLeaf (θ := (fun (o : (Int32 × ST)) => (o.1, mkM K R o.2))) h rfl
        · refine eJN (fun j24 fj24 => j24 = some o → fj24 = some (o.1, mkM K R o.2)) h ?_ ?_
          · intro h
            refine eJN (fun j19 fj19 => j19 = some o → fj19 = some (o.1, mkM K R o.2)) h ?_ ?_
            · intro h
              refine eIF h (fun c12 h => ?_) (fun c12 h => ?_)
              · exact eLeaf (θ := (fun (o : (Int32 × ST)) => (o.1, mkM K R o.2))) h rfl
              · refine eCV (kd_72 hL) (Nat.le_of_ble_eq_true rfl) (fun _ hv => E_X5_other_ok hn hL hv) h (fun v13 h => ?_)
                refine eJN (fun j17 fj17 => ∀ (u14 : Int32), j17 u14 = some o → fj17 u14 = some (o.1, mkM K R o.2)) h ?_ ?_
                · intro u14 h
                  refine eCwiV (kW_0 hw) (k8W 0 hw) (fun _ hv => E_X10_allows_ok hn hL hw hv) h (fun v15 h => ?_)
                  refine eIF h (fun c16 h => ?_) (fun c16 h => ?_)
                  · exact eLeaf (θ := (fun (o : (Int32 × ST)) => (o.1, mkM K R o.2))) h rfl
                  · exact eLeaf (θ := (fun (o : (Int32 × ST)) => (o.1, mkM K R o.2))) h rfl
                · intro j17 fj17 Jj17 h
                  refine eIF h (fun c18 h => ?_) (fun c18 h => ?_)
                  · exact Jj17 _ h
                  · exact Jj17 _ h
            · intro j19 fj19 Jj19 h
              refine eIF h (fun c20 h => ?_) (fun c20 h => ?_)
              · exact Jj19 h
              · refine eGR (kC_0 hc) (k8C 0 hc) (rC_0_0 hc) ?_
                refine eCV (kd_72 hL) (Nat.le_of_ble_eq_true rfl) (fun _ hv => E_X5_thing_ok hn hL hv) h (fun v21 h => ?_)
                refine eCV (kC_1 hc) (k8C 1 hc) (fun _ hv => E_X3_has_ok hn hL (LC_LN hc) hv) h (fun v22 h => ?_)
                refine eIF h (fun c23 h => ?_) (fun c23 h => ?_)
                · exact eLeaf (θ := (fun (o : (Int32 × ST)) => (o.1, mkM K R o.2))) h rfl
                · exact Jj19 h
          · intro j24 fj24 Jj24 h
            refine eIF h (fun c25 h => ?_) (fun c25 h => ?_)
            · exact Jj24 h
            · refine eCV (kd_72 hL) (Nat.le_of_ble_eq_true rfl) (fun _ hv => E_X5_other_ok hn hL hv) h (fun v26 h => ?_)
              refine eCS (fun _ hv => E_X11_hasBit_ok hn hL hv) h (fun v27 h => ?_)
              refine eIF h (fun c28 h => ?_) (fun c28 h => ?_)
              · exact eLeaf (θ := (fun (o : (Int32 × ST)) => (o.1, mkM K R o.2))) h rfl
              · exact Jj24 h
      · intro j29 fj29 Jj29 h
        refine eJN (fun j30 fj30 => j30 = some o → fj30 = some (o.1, mkM K R o.2)) h ?_ ?_
        · intro h
          exact Jj29 _ h
        · intro j30 fj30 Jj30 h
          refine eIF h (fun c31 h => ?_) (fun c31 h => ?_)
          · exact Jj30 h
          · refine eIF h (fun c32 h => ?_) (fun c32 h => ?_)
            · exact Jj30 h
            · exact Jj29 _ h
    · exact eLeaf (θ := (fun (o : (Int32 × ST)) => (o.1, mkM K R o.2))) h rfl
-- OnlyUpward$Knowledge.learn(III)V
set_option maxRecDepth 100000 in
set_option maxHeartbeats 4000000 in
def E_X3_learn (n : Nat) (S : ST) (k : Nat) (a1 : Int32) (a2 : Int32) (a3 : Int32) : Option ST :=
  (iter (fun (s1 : Int32 × ST) => if (10 : Int32) ≤ s1.1 then some (.inr s1.2) else (E_X11_hasBit n s1.2 a1 s1.1).bind fun v3 => jn (fun (S4 : ST) => some (.inl ((s1.1 + (1 : Int32)), S4))) fun j5 => if v3 = 0 then j5 s1.2 else (rd (s1.2.1 (k + 1)) 60 ((s1.1 * (6 : Int32)) + a2)).bind fun v7 => if v7 ≤ a3 then j5 s1.2 else (wr s1.2 (k + 1) 60 ((s1.1 * (6 : Int32)) + a2) a3).bind fun S9 => j5 S9) n ((0 : Int32), S)).bind fun (e1 : ST) => some e1
set_option maxRecDepth 100000 in
set_option maxHeartbeats 4000000 in
theorem E_X3_learn_ok {n : Nat} (hn : 30000 ≤ n) {K : AK} {R : Nat → Nat → Option Nat} {S : ST} {k : Nat} {a1 : Int32} {a2 : Int32} {a3 : Int32} {tz en : Nat} (hL : Lay K R tz en) (hk : LN K R k) {o : ST} (h : E_X3_learn n S k a1 a2 a3 = some o) : F_X3_learn n (mkM K R S) k a1 a2 a3 = some (mkM K R o) := by
  unfold E_X3_learn at h
  unfold F_X3_learn
  refine eLP (fun (s1 : Int32 × ST) => (s1.1, mkM K R s1.2)) (fun (e1 : ST) => mkM K R e1) h rfl ?_ ?_
  · intro s1 x1 h
    refine eIF h (fun c2 h => ?_) (fun c2 h => ?_)
    · exact eLeaf (θ := (Sum.map (fun (s1 : Int32 × ST) => (s1.1, mkM K R s1.2)) (fun (e1 : ST) => mkM K R e1))) h rfl
    · refine eCS (fun _ hv => E_X11_hasBit_ok hn hL hv) h (fun v3 h => ?_)
      refine eJN (fun j5 fj5 => ∀ (S4 : ST), j5 S4 = some x1 → fj5 (mkM K R S4) = some (Sum.map (fun (s1 : Int32 × ST) => (s1.1, mkM K R s1.2)) (fun (e1 : ST) => mkM K R e1) x1)) h ?_ ?_
      · intro S4 h
        exact eLeaf (θ := (Sum.map (fun (s1 : Int32 × ST) => (s1.1, mkM K R s1.2)) (fun (e1 : ST) => mkM K R e1))) h rfl
      · intro j5 fj5 Jj5 h
        refine eIF h (fun c6 h => ?_) (fun c6 h => ?_)
        · exact Jj5 _ h
        · refine eGR (kN_0 hk) (k8N 0 hk) (rN_0_0 hk) ?_
          refine eRI (kN_1 hk) h (fun v7 h => ?_)
          refine eIF h (fun c8 h => ?_) (fun c8 h => ?_)
          · exact Jj5 _ h
          · refine eGR (kN_0 hk) (k8N 0 hk) (rN_0_0 hk) ?_
            refine eWI (kN_1 hk) (k8N 1 hk) h (fun S9 h => ?_)
            exact Jj5 _ h
  · intro e1 h
    exact eLeaf (θ := (fun (o : ST) => (mkM K R o))) h rfl
-- OnlyUpward$Course.see(IIII)V
set_option maxRecDepth 100000 in
set_option maxHeartbeats 4000000 in
def E_X1_see (n : Nat) (S : ST) (c : Nat) (a1 : Int32) (a2 : Int32) (a3 : Int32) (a4 : Int32) : Option ST :=
  (iter (fun (s1 : Int32 × ST) => if (10 : Int32) ≤ s1.1 then some (.inr s1.2) else lets ((((s1.1 * (10 : Int32)) + a2) * (6 : Int32)) + a3) fun (w3 : Int32) => jn (fun (S4 : ST) => some (.inl ((s1.1 + (1 : Int32)), S4))) fun j5 => if s1.1 = a2 then j5 s1.2 else (E_X11_hasBit n s1.2 a1 s1.1).bind fun v7 => if v7 = 0 then j5 s1.2 else (rd (s1.2.1 (c + 3)) 600 w3).bind fun v9 => if v9 ≤ a4 then j5 s1.2 else (wr s1.2 (c + 3) 600 w3 a4).bind fun S11 => j5 S11) n ((0 : Int32), S)).bind fun (e1 : ST) => some e1
set_option maxRecDepth 100000 in
set_option maxHeartbeats 4000000 in
theorem E_X1_see_ok {n : Nat} (hn : 30000 ≤ n) {K : AK} {R : Nat → Nat → Option Nat} {S : ST} {c : Nat} {a1 : Int32} {a2 : Int32} {a3 : Int32} {a4 : Int32} {tz en : Nat} (hL : Lay K R tz en) (hc : LC K R c) {o : ST} (h : E_X1_see n S c a1 a2 a3 a4 = some o) : F_X1_see n (mkM K R S) c a1 a2 a3 a4 = some (mkM K R o) := by
  unfold E_X1_see at h
  unfold F_X1_see
  refine eLP (fun (s1 : Int32 × ST) => (s1.1, mkM K R s1.2)) (fun (e1 : ST) => mkM K R e1) h rfl ?_ ?_
  · intro s1 x1 h
    refine eIF h (fun c2 h => ?_) (fun c2 h => ?_)
    · exact eLeaf (θ := (Sum.map (fun (s1 : Int32 × ST) => (s1.1, mkM K R s1.2)) (fun (e1 : ST) => mkM K R e1))) h rfl
    · refine eLT h (fun w3 h => ?_)
      refine eJN (fun j5 fj5 => ∀ (S4 : ST), j5 S4 = some x1 → fj5 (mkM K R S4) = some (Sum.map (fun (s1 : Int32 × ST) => (s1.1, mkM K R s1.2)) (fun (e1 : ST) => mkM K R e1) x1)) h ?_ ?_
      · intro S4 h
        exact eLeaf (θ := (Sum.map (fun (s1 : Int32 × ST) => (s1.1, mkM K R s1.2)) (fun (e1 : ST) => mkM K R e1))) h rfl
      · intro j5 fj5 Jj5 h
        refine eIF h (fun c6 h => ?_) (fun c6 h => ?_)
        · exact Jj5 _ h
        · refine eCS (fun _ hv => E_X11_hasBit_ok hn hL hv) h (fun v7 h => ?_)
          refine eIF h (fun c8 h => ?_) (fun c8 h => ?_)
          · exact Jj5 _ h
          · refine eGR (kC_0 hc) (k8C 0 hc) (rC_0_1 hc) ?_
            refine eRI (kC_3 hc) h (fun v9 h => ?_)
            refine eIF h (fun c10 h => ?_) (fun c10 h => ?_)
            · exact Jj5 _ h
            · refine eGR (kC_0 hc) (k8C 0 hc) (rC_0_1 hc) ?_
              refine eWI (kC_3 hc) (k8C 3 hc) h (fun S11 h => ?_)
              exact Jj5 _ h
  · intro e1 h
    exact eLeaf (θ := (fun (o : ST) => (mkM K R o))) h rfl
-- OnlyUpward$Course.carryOut(LOnlyUpward$World;LOnlyUpward$Plan;II)V
set_option maxRecDepth 100000 in
set_option maxHeartbeats 4000000 in
def E_X1_carryOut (n : Nat) (S : ST) (c : Nat) (w : Nat) (a3 : Int32) (a4 : Int32) : Option ST :=
  (E_X5_person n S a3).bind fun v1 => (E_X5_other n S a3).bind fun v2 => (E_X5_thing n S a3).bind fun v3 => (E_X5_hour n S a3).bind fun v4 => (E_X10_placeOf n S w v1 v4).bind fun v5 => (E_X10_hearers n S w v5 v4).bind fun v6 => lets (upI S c 5 ((S.1 c 5) + (1 : Int32))) fun (S7 : ST) => (E_X5_sort n S7 a3).bind fun v8 => if v8 = (0 : Int32) then (E_X3_learn n S7 (c + 1) (v6 &&& a4) v3 (v4 + (1 : Int32))).bind fun S11 => lets (upI S11 c 4 ((S11.1 c 4) + (1 : Int32))) fun (S12 : ST) => some S12 else if v8 = (1 : Int32) then (E_X10_placeOf n S7 w v1 v4).bind fun v14 => (E_X10_standers n S7 w v14 v4).bind fun v15 => (E_X3_learn n S7 (c + 1) (v15 &&& a4) v3 (v4 + (1 : Int32))).bind fun S17 => (rd (S17.1 (w + 11)) 6 v2).bind fun v18 => lets (upI S17 c 4 ((S17.1 c 4) + v18)) fun (S19 : ST) => some S19 else if v8 = (2 : Int32) then lets (upI S7 c 4 ((S7.1 c 4) + (5 : Int32))) fun (S21 : ST) => some S21 else (E_X3_has n S7 (c + 1) v2 v3 v4).bind fun v22 => jn (fun (S23 : ST) => (E_X3_has n S23 (c + 1) v1 v3 v4).bind fun v24 => jn (fun (S25 : ST) => lets (upI S25 c 4 ((S25.1 c 4) + (1 : Int32))) fun (S26 : ST) => some S26) fun j27 => if v24 = 0 then (E_X1_see n S23 c (v6 &&& a4) v1 v3 (v4 + (1 : Int32))).bind fun S30 => j27 S30 else j27 S23) fun j31 => if v22 = 0 then j31 S7 else (E_X10_allows n S7 w v2 v1 v4 (0 : Int32) a4).bind fun v33 => if v33.1 = 0 then j31 v33.2 else (E_X3_learn n v33.2 (c + 1) (v6 &&& a4) v3 (v4 + (1 : Int32))).bind fun S36 => j31 S36
set_option maxRecDepth 100000 in
set_option maxHeartbeats 4000000 in
theorem E_X1_carryOut_ok {n : Nat} (hn : 30000 ≤ n) {K : AK} {R : Nat → Nat → Option Nat} {S : ST} {c : Nat} {w : Nat} {a3 : Int32} {a4 : Int32} {tz en : Nat} (hL : Lay K R tz en) (hc : LC K R c) (hw : LW K R w) {o : ST} (h : E_X1_carryOut n S c w a3 a4 = some o) : F_X1_carryOut n (mkM K R S) c w 72 a3 a4 = some (mkM K R o) := by
  unfold E_X1_carryOut at h
  unfold F_X1_carryOut
  refine eCV (kd_72 hL) (Nat.le_of_ble_eq_true rfl) (fun _ hv => E_X5_person_ok hn hL hv) h (fun v1 h => ?_)
  refine eCV (kd_72 hL) (Nat.le_of_ble_eq_true rfl) (fun _ hv => E_X5_other_ok hn hL hv) h (fun v2 h => ?_)
  refine eCV (kd_72 hL) (Nat.le_of_ble_eq_true rfl) (fun _ hv => E_X5_thing_ok hn hL hv) h (fun v3 h => ?_)
  refine eCV (kd_72 hL) (Nat.le_of_ble_eq_true rfl) (fun _ hv => E_X5_hour_ok hn hL hv) h (fun v4 h => ?_)
  refine eCV (kW_0 hw) (k8W 0 hw) (fun _ hv => E_X10_placeOf_ok hn hL hw hv) h (fun v5 h => ?_)
  refine eCV (kW_0 hw) (k8W 0 hw) (fun _ hv => E_X10_hearers_ok hn hL hw hv) h (fun v6 h => ?_)
  refine eGI (kC_0 hc) (k8C 0 hc) ?_
  refine ePI (kC_0 hc) (k8C 0 hc) h (fun S7 h => ?_)
  refine eCV (kd_72 hL) (Nat.le_of_ble_eq_true rfl) (fun _ hv => E_X5_sort_ok hn hL hv) h (fun v8 h => ?_)
  refine eIF h (fun c9 h => ?_) (fun c9 h => ?_)
  · refine eGR (kC_0 hc) (k8C 0 hc) (rC_0_0 hc) ?_
    refine eCwV (kC_1 hc) (k8C 1 hc) (fun _ hv => E_X3_learn_ok hn hL (LC_LN hc) hv) h (fun S11 h => ?_)
    refine eGI (kC_0 hc) (k8C 0 hc) ?_
    refine ePI (kC_0 hc) (k8C 0 hc) h (fun S12 h => ?_)
    exact eLeaf (θ := (fun (o : ST) => (mkM K R o))) h rfl
  · refine eIF h (fun c13 h => ?_) (fun c13 h => ?_)
    · refine eCV (kW_0 hw) (k8W 0 hw) (fun _ hv => E_X10_placeOf_ok hn hL hw hv) h (fun v14 h => ?_)
      refine eCV (kW_0 hw) (k8W 0 hw) (fun _ hv => E_X10_standers_ok hn hL hw hv) h (fun v15 h => ?_)
      refine eGR (kC_0 hc) (k8C 0 hc) (rC_0_0 hc) ?_
      refine eCwV (kC_1 hc) (k8C 1 hc) (fun _ hv => E_X3_learn_ok hn hL (LC_LN hc) hv) h (fun S17 h => ?_)
      refine eGI (kC_0 hc) (k8C 0 hc) ?_
      refine eGR (kW_0 hw) (k8W 0 hw) (rW_0_10 hw) ?_
      refine eRI (kW_11 hw) h (fun v18 h => ?_)
      refine ePI (kC_0 hc) (k8C 0 hc) h (fun S19 h => ?_)
      exact eLeaf (θ := (fun (o : ST) => (mkM K R o))) h rfl
    · refine eIF h (fun c20 h => ?_) (fun c20 h => ?_)
      · refine eGI (kC_0 hc) (k8C 0 hc) ?_
        refine ePI (kC_0 hc) (k8C 0 hc) h (fun S21 h => ?_)
        exact eLeaf (θ := (fun (o : ST) => (mkM K R o))) h rfl
      · refine eGR (kC_0 hc) (k8C 0 hc) (rC_0_0 hc) ?_
        refine eCV (kC_1 hc) (k8C 1 hc) (fun _ hv => E_X3_has_ok hn hL (LC_LN hc) hv) h (fun v22 h => ?_)
        refine eJN (fun j31 fj31 => ∀ (S23 : ST), j31 S23 = some o → fj31 (mkM K R S23) = some (mkM K R o)) h ?_ ?_
        · intro S23 h
          refine eGR (kC_0 hc) (k8C 0 hc) (rC_0_0 hc) ?_
          refine eCV (kC_1 hc) (k8C 1 hc) (fun _ hv => E_X3_has_ok hn hL (LC_LN hc) hv) h (fun v24 h => ?_)
          refine eJN (fun j27 fj27 => ∀ (S25 : ST), j27 S25 = some o → fj27 (mkM K R S25) = some (mkM K R o)) h ?_ ?_
          · intro S25 h
            refine eGI (kC_0 hc) (k8C 0 hc) ?_
            refine ePI (kC_0 hc) (k8C 0 hc) h (fun S26 h => ?_)
            exact eLeaf (θ := (fun (o : ST) => (mkM K R o))) h rfl
          · intro j27 fj27 Jj27 h
            refine eIF h (fun c28 h => ?_) (fun c28 h => ?_)
            · refine eCwV (kC_0 hc) (k8C 0 hc) (fun _ hv => E_X1_see_ok hn hL hc hv) h (fun S30 h => ?_)
              exact Jj27 _ h
            · exact Jj27 _ h
        · intro j31 fj31 Jj31 h
          refine eIF h (fun c32 h => ?_) (fun c32 h => ?_)
          · exact Jj31 _ h
          · refine eCwiV (kW_0 hw) (k8W 0 hw) (fun _ hv => E_X10_allows_ok hn hL hw hv) h (fun v33 h => ?_)
            refine eIF h (fun c34 h => ?_) (fun c34 h => ?_)
            · exact Jj31 _ h
            · refine eGR (kC_0 hc) (k8C 0 hc) (rC_0_0 hc) ?_
              refine eCwV (kC_1 hc) (k8C 1 hc) (fun _ hv => E_X3_learn_ok hn hL (LC_LN hc) hv) h (fun S36 h => ?_)
              exact Jj31 _ h
-- OnlyUpward$Course.readWriting(LOnlyUpward$World;LOnlyUpward$Plan;III)V
set_option maxRecDepth 100000 in
set_option maxHeartbeats 4000000 in
def E_X1_readWriting (n : Nat) (S : ST) (c : Nat) (w : Nat) (a3 : Int32) (a4 : Int32) (a5 : Int32) : Option ST :=
  (E_X5_sort n S a3).bind fun v1 => if v1 = (2 : Int32) then (rd (S.1 (c + 4)) 30 a3).bind fun v3 => if v3 = 0 then (E_X5_person n S a3).bind fun v5 => (E_X5_hour n S a3).bind fun v6 => (E_X10_placeOf n S w v5 v6).bind fun v7 => (E_X10_standers n S w v7 a4).bind fun v8 => (E_X5_thing n S a3).bind fun v9 => (E_X3_learn n S (c + 1) (v8 &&& a5) v9 (a4 + (1 : Int32))).bind fun S11 => some S11 else some S else some S
set_option maxRecDepth 100000 in
set_option maxHeartbeats 4000000 in
theorem E_X1_readWriting_ok {n : Nat} (hn : 30000 ≤ n) {K : AK} {R : Nat → Nat → Option Nat} {S : ST} {c : Nat} {w : Nat} {a3 : Int32} {a4 : Int32} {a5 : Int32} {tz en : Nat} (hL : Lay K R tz en) (hc : LC K R c) (hw : LW K R w) {o : ST} (h : E_X1_readWriting n S c w a3 a4 a5 = some o) : F_X1_readWriting n (mkM K R S) c w 72 a3 a4 a5 = some (mkM K R o) := by
  unfold E_X1_readWriting at h
  unfold F_X1_readWriting
  refine eCV (kd_72 hL) (Nat.le_of_ble_eq_true rfl) (fun _ hv => E_X5_sort_ok hn hL hv) h (fun v1 h => ?_)
  refine eIF h (fun c2 h => ?_) (fun c2 h => ?_)
  · refine eGR (kC_0 hc) (k8C 0 hc) (rC_0_2 hc) ?_
    refine eRI (kC_4 hc) h (fun v3 h => ?_)
    refine eIF h (fun c4 h => ?_) (fun c4 h => ?_)
    · refine eCV (kd_72 hL) (Nat.le_of_ble_eq_true rfl) (fun _ hv => E_X5_person_ok hn hL hv) h (fun v5 h => ?_)
      refine eCV (kd_72 hL) (Nat.le_of_ble_eq_true rfl) (fun _ hv => E_X5_hour_ok hn hL hv) h (fun v6 h => ?_)
      refine eCV (kW_0 hw) (k8W 0 hw) (fun _ hv => E_X10_placeOf_ok hn hL hw hv) h (fun v7 h => ?_)
      refine eGR (kC_0 hc) (k8C 0 hc) (rC_0_0 hc) ?_
      refine eCV (kW_0 hw) (k8W 0 hw) (fun _ hv => E_X10_standers_ok hn hL hw hv) h (fun v8 h => ?_)
      refine eCV (kd_72 hL) (Nat.le_of_ble_eq_true rfl) (fun _ hv => E_X5_thing_ok hn hL hv) h (fun v9 h => ?_)
      refine eCwV (kC_1 hc) (k8C 1 hc) (fun _ hv => E_X3_learn_ok hn hL (LC_LN hc) hv) h (fun S11 h => ?_)
      exact eLeaf (θ := (fun (o : ST) => (mkM K R o))) h rfl
    · exact eLeaf (θ := (fun (o : ST) => (mkM K R o))) h rfl
  · exact eLeaf (θ := (fun (o : ST) => (mkM K R o))) h rfl
-- OnlyUpward$Course.go(LOnlyUpward$World;LOnlyUpward$Plan;)V
set_option maxRecDepth 100000 in
set_option maxHeartbeats 4000000 in
def E_X1_go (n : Nat) (S : ST) (c : Nat) (w : Nat) : Option ST :=
  (E_X3_begin n S (c + 1) w).bind fun S2 => lets (fillS S2 (c + 3) 600 (99 : Int32)) fun (S3 : ST) => lets (upI S3 c 4 (0 : Int32)) fun (S4 : ST) => lets (upI S4 c 5 (0 : Int32)) fun (S5 : ST) => (iter (fun (s6 : Int32 × ST) => if (24 : Int32) ≤ s6.1 then some (.inr s6.2) else (E_X1_aliveAt n s6.2 c w s6.1).bind fun v8 => (iter (fun (s9 : Int32 × ST) => if (s9.2.1 72 1) ≤ s9.1 then some (.inr s9.2) else (E_X5_hour n s9.2 s9.1).bind fun v11 => jn (fun (S12 : ST) => some (.inl ((s9.1 + (1 : Int32)), S12))) fun j13 => if v11 = s6.1 then (E_X1_whyNot n s9.2 c w s9.1 v8).bind fun v15 => (wr v15.2 (c + 4) 30 s9.1 v15.1).bind fun S16 => (rd (S16.1 (c + 4)) 30 s9.1).bind fun v17 => if v17 = 0 then (E_X1_carryOut n S16 c w s9.1 v8).bind fun S20 => j13 S20 else j13 S16 else (E_X5_hour n s9.2 s9.1).bind fun v21 => if s6.1 ≤ v21 then j13 s9.2 else (E_X1_readWriting n s9.2 c w s9.1 s6.1 v8).bind fun S24 => j13 S24) n ((0 : Int32), s6.2)).bind fun (e9 : ST) => some (.inl ((s6.1 + (1 : Int32)), e9))) n ((0 : Int32), S5)).bind fun (e6 : ST) => some e6
set_option maxRecDepth 100000 in
set_option maxHeartbeats 4000000 in
theorem E_X1_go_ok {n : Nat} (hn : 30000 ≤ n) {K : AK} {R : Nat → Nat → Option Nat} {S : ST} {c : Nat} {w : Nat} {tz en : Nat} (hL : Lay K R tz en) (hc : LC K R c) (hw : LW K R w) {o : ST} (h : E_X1_go n S c w = some o) : F_X1_go n (mkM K R S) c w 72 = some (mkM K R o) := by
  unfold E_X1_go at h
  unfold F_X1_go
  refine eGR (kC_0 hc) (k8C 0 hc) (rC_0_0 hc) ?_
  refine eCwV (kC_1 hc) (k8C 1 hc) (fun _ hv => E_X3_begin_ok hn hL (LC_LN hc) hw hv) h (fun S2 h => ?_)
  refine eGR (kC_0 hc) (k8C 0 hc) (rC_0_1 hc) ?_
  refine eFL (by omega) (kC_3 hc) (k8C 3 hc) h (fun S3 h => ?_)
  refine ePI (kC_0 hc) (k8C 0 hc) h (fun S4 h => ?_)
  refine ePI (kC_0 hc) (k8C 0 hc) h (fun S5 h => ?_)
  refine eLP (fun (s6 : Int32 × ST) => (s6.1, mkM K R s6.2)) (fun (e6 : ST) => mkM K R e6) h rfl ?_ ?_
  · intro s6 x6 h
    refine eIF h (fun c7 h => ?_) (fun c7 h => ?_)
    · exact eLeaf (θ := (Sum.map (fun (s6 : Int32 × ST) => (s6.1, mkM K R s6.2)) (fun (e6 : ST) => mkM K R e6))) h rfl
    · refine eCV (kC_0 hc) (k8C 0 hc) (fun _ hv => E_X1_aliveAt_ok hn hL hc hw hv) h (fun v8 h => ?_)
      refine eLP (fun (s9 : Int32 × ST) => (s9.1, mkM K R s9.2)) (fun (e9 : ST) => mkM K R e9) h rfl ?_ ?_
      · intro s9 x9 h
        refine eGI (kd_72 hL) (Nat.le_of_ble_eq_true rfl) ?_
        refine eIF h (fun c10 h => ?_) (fun c10 h => ?_)
        · exact eLeaf (θ := (Sum.map (fun (s9 : Int32 × ST) => (s9.1, mkM K R s9.2)) (fun (e9 : ST) => mkM K R e9))) h rfl
        · refine eCV (kd_72 hL) (Nat.le_of_ble_eq_true rfl) (fun _ hv => E_X5_hour_ok hn hL hv) h (fun v11 h => ?_)
          refine eJN (fun j13 fj13 => ∀ (S12 : ST), j13 S12 = some x9 → fj13 (mkM K R S12) = some (Sum.map (fun (s9 : Int32 × ST) => (s9.1, mkM K R s9.2)) (fun (e9 : ST) => mkM K R e9) x9)) h ?_ ?_
          · intro S12 h
            exact eLeaf (θ := (Sum.map (fun (s9 : Int32 × ST) => (s9.1, mkM K R s9.2)) (fun (e9 : ST) => mkM K R e9))) h rfl
          · intro j13 fj13 Jj13 h
            refine eIF h (fun c14 h => ?_) (fun c14 h => ?_)
            · refine eGR (kC_0 hc) (k8C 0 hc) (rC_0_2 hc) ?_
              refine eCwiV (kC_0 hc) (k8C 0 hc) (fun _ hv => E_X1_whyNot_ok hn hL hc hw hv) h (fun v15 h => ?_)
              refine eWI (kC_4 hc) (k8C 4 hc) h (fun S16 h => ?_)
              refine eGR (kC_0 hc) (k8C 0 hc) (rC_0_2 hc) ?_
              refine eRI (kC_4 hc) h (fun v17 h => ?_)
              refine eIF h (fun c18 h => ?_) (fun c18 h => ?_)
              · refine eCwV (kC_0 hc) (k8C 0 hc) (fun _ hv => E_X1_carryOut_ok hn hL hc hw hv) h (fun S20 h => ?_)
                exact Jj13 _ h
              · exact Jj13 _ h
            · refine eCV (kd_72 hL) (Nat.le_of_ble_eq_true rfl) (fun _ hv => E_X5_hour_ok hn hL hv) h (fun v21 h => ?_)
              refine eIF h (fun c22 h => ?_) (fun c22 h => ?_)
              · exact Jj13 _ h
              · refine eCwV (kC_0 hc) (k8C 0 hc) (fun _ hv => E_X1_readWriting_ok hn hL hc hw hv) h (fun S24 h => ?_)
                exact Jj13 _ h
      · intro e9 h
        exact eLeaf (θ := (Sum.map (fun (s6 : Int32 × ST) => (s6.1, mkM K R s6.2)) (fun (e6 : ST) => mkM K R e6))) h rfl
  · intro e6 h
    exact eLeaf (θ := (fun (o : ST) => (mkM K R o))) h rfl
-- OnlyUpward.planCourse()LOnlyUpward$Course;
set_option maxRecDepth 100000 in
set_option maxHeartbeats 4000000 in
def E_X11_planCourse (n : Nat) (S : ST) (tw : Nat) : Option ST :=
  jn (fun (S1 : ST) => some S1) fun j2 => if (S.1 8 10) = 0 then (E_X1_nobodyDies n S 76).bind fun S5 => (E_X1_go n S5 76 tw).bind fun S7 => lets (upI S7 8 10 (1 : Int32)) fun (S8 : ST) => j2 S8 else j2 S
set_option maxRecDepth 100000 in
set_option maxHeartbeats 4000000 in
theorem E_X11_planCourse_ok {n : Nat} (hn : 30000 ≤ n) {K : AK} {R : Nat → Nat → Option Nat} {S : ST} {tw en : Nat} (hL : Lay K R tw en) {o : ST} (h : E_X11_planCourse n S tw = some o) : F_X11_planCourse n (mkM K R S) 8 = some ((76 : Nat), mkM K R o) := by
  unfold E_X11_planCourse at h
  unfold F_X11_planCourse
  refine eGI (kd_8 hL) (Nat.le_of_ble_eq_true rfl) ?_
  refine eJN (fun j2 fj2 => ∀ (S1 : ST), j2 S1 = some o → fj2 (mkM K R S1) = some ((76 : Nat), mkM K R o)) h ?_ ?_
  · intro S1 h
    refine eGR (kd_8 hL) (Nat.le_of_ble_eq_true rfl) (rd_8_9 hL) ?_
    exact eLeaf (θ := (fun (o : ST) => ((76 : Nat), mkM K R o))) h rfl
  · intro j2 fj2 Jj2 h
    refine eIF h (fun c3 h => ?_) (fun c3 h => ?_)
    · refine eGR (kd_8 hL) (Nat.le_of_ble_eq_true rfl) (rd_8_9 hL) ?_
      refine eCwV (kd_76 hL) (Nat.le_of_ble_eq_true rfl) (fun _ hv => E_X1_nobodyDies_ok hn hL (layC_76 hL) hv) h (fun S5 h => ?_)
      refine eGR (kd_8 hL) (Nat.le_of_ble_eq_true rfl) (rd_8_9 hL) ?_
      refine eGR (kd_8 hL) (Nat.le_of_ble_eq_true rfl) (rd_told hL) ?_
      refine eGR (kd_8 hL) (Nat.le_of_ble_eq_true rfl) (rd_8_8 hL) ?_
      refine eCwV (kd_76 hL) (Nat.le_of_ble_eq_true rfl) (fun _ hv => E_X1_go_ok hn hL (layC_76 hL) (layT hL) hv) h (fun S7 h => ?_)
      refine ePZ (kd_8 hL) (Nat.le_of_ble_eq_true rfl) (by decide) h (fun S8 h => ?_)
      exact Jj2 _ h
    · exact Jj2 _ h
-- OnlyUpward.doing(II)I
set_option maxRecDepth 100000 in
set_option maxHeartbeats 4000000 in
def E_X11_doing (n : Nat) (S : ST) (tw : Nat) (a1 : Int32) (a2 : Int32) : Option (Int32 × ST) :=
  (E_X5_has n S a1).bind fun v1 => if v1 = 0 then some ((-1 : Int32), S) else if a2 < 0 then some ((-1 : Int32), S) else if a2 ≤ (5 : Int32) then if a2 = (5 : Int32) then (E_X11_planCourse n S tw).bind fun S7 => (rd (S7.1 80) 30 a1).bind fun v8 => some (v8, S7) else (E_X5_part n S a1 a2).bind fun v9 => some (v9, S) else some ((-1 : Int32), S)
set_option maxRecDepth 100000 in
set_option maxHeartbeats 4000000 in
theorem E_X11_doing_ok {n : Nat} (hn : 30000 ≤ n) {K : AK} {R : Nat → Nat → Option Nat} {S : ST} {a1 : Int32} {a2 : Int32} {tw en : Nat} (hL : Lay K R tw en) {o : (Int32 × ST)} (h : E_X11_doing n S tw a1 a2 = some o) : F_X11_doing n (mkM K R S) 8 a1 a2 = some (o.1, mkM K R o.2) := by
  unfold E_X11_doing at h
  unfold F_X11_doing
  refine eGR (kd_8 hL) (Nat.le_of_ble_eq_true rfl) (rd_8_8 hL) ?_
  refine eCV (kd_72 hL) (Nat.le_of_ble_eq_true rfl) (fun _ hv => E_X5_has_ok hn hL hv) h (fun v1 h => ?_)
  refine eIF h (fun c2 h => ?_) (fun c2 h => ?_)
  · exact eLeaf (θ := (fun (o : (Int32 × ST)) => (o.1, mkM K R o.2))) h rfl
  · refine eIF h (fun c3 h => ?_) (fun c3 h => ?_)
    · exact eLeaf (θ := (fun (o : (Int32 × ST)) => (o.1, mkM K R o.2))) h rfl
    · refine eIF h (fun c4 h => ?_) (fun c4 h => ?_)
      · refine eIF h (fun c5 h => ?_) (fun c5 h => ?_)
        · refine eCwrV (kd_8 hL) (Nat.le_of_ble_eq_true rfl) (fun _ hv => E_X11_planCourse_ok hn hL hv) h (fun S7 h => ?_)
          refine eGR (kd_76 hL) (Nat.le_of_ble_eq_true rfl) (rd_76_2 hL) ?_
          refine eRI (kd_80 hL) h (fun v8 h => ?_)
          exact eLeaf (θ := (fun (o : (Int32 × ST)) => (o.1, mkM K R o.2))) h rfl
        · refine eGR (kd_8 hL) (Nat.le_of_ble_eq_true rfl) (rd_8_8 hL) ?_
          refine eCV (kd_72 hL) (Nat.le_of_ble_eq_true rfl) (fun _ hv => E_X5_part_ok hn hL hv) h (fun v9 h => ?_)
          exact eLeaf (θ := (fun (o : (Int32 × ST)) => (o.1, mkM K R o.2))) h rfl
      · exact eLeaf (θ := (fun (o : (Int32 × ST)) => (o.1, mkM K R o.2))) h rfl
-- OnlyUpward$Course.firstNotDone(LOnlyUpward$Plan;)I
set_option maxRecDepth 100000 in
set_option maxHeartbeats 4000000 in
def E_X1_firstNotDone (n : Nat) (S : ST) (c : Nat) : Option Int32 :=
  (iter (fun (s1 : Int32 × Int32) => if (S.1 72 1) ≤ s1.2 then some (.inr s1.1) else jn (fun (u3 : Int32) => (rd (S.1 (c + 4)) 30 s1.2).bind fun v4 => jn (fun (u5 : Int32) => some (.inl (u5, (s1.2 + (1 : Int32))))) fun j6 => if v4 = 0 then j6 s1.1 else if u3 = 0 then j6 s1.1 else j6 s1.2) fun j9 => jn (j9 (1 : Int32)) fun j10 => if s1.1 = (-2 : Int32) then j10 else (E_X5_hour n S s1.2).bind fun v12 => (E_X5_hour n S s1.1).bind fun v13 => if v13 ≤ v12 then j9 (0 : Int32) else j10) n ((-2 : Int32), (0 : Int32))).bind fun (e1 : Int32) => some e1
set_option maxRecDepth 100000 in
set_option maxHeartbeats 4000000 in
theorem E_X1_firstNotDone_ok {n : Nat} (hn : 30000 ≤ n) {K : AK} {R : Nat → Nat → Option Nat} {S : ST} {c : Nat} {tz en : Nat} (hL : Lay K R tz en) (hc : LC K R c) {o : Int32} (h : E_X1_firstNotDone n S c = some o) : F_X1_firstNotDone n (mkM K R S) c 72 = some o := by
  unfold E_X1_firstNotDone at h
  unfold F_X1_firstNotDone
  refine eLP (fun (s1 : Int32 × Int32) => s1) (fun (e1 : Int32) => e1) h rfl ?_ ?_
  · intro s1 x1 h
    refine eGI (kd_72 hL) (Nat.le_of_ble_eq_true rfl) ?_
    refine eIF h (fun c2 h => ?_) (fun c2 h => ?_)
    · exact eLeaf (θ := (Sum.map (fun (s1 : Int32 × Int32) => s1) (fun (e1 : Int32) => e1))) h rfl
    · refine eJN (fun j9 fj9 => ∀ (u3 : Int32), j9 u3 = some x1 → fj9 u3 = some (Sum.map (fun (s1 : Int32 × Int32) => s1) (fun (e1 : Int32) => e1) x1)) h ?_ ?_
      · intro u3 h
        refine eGR (kC_0 hc) (k8C 0 hc) (rC_0_2 hc) ?_
        refine eRI (kC_4 hc) h (fun v4 h => ?_)
        refine eJN (fun j6 fj6 => ∀ (u5 : Int32), j6 u5 = some x1 → fj6 u5 = some (Sum.map (fun (s1 : Int32 × Int32) => s1) (fun (e1 : Int32) => e1) x1)) h ?_ ?_
        · intro u5 h
          exact eLeaf (θ := (Sum.map (fun (s1 : Int32 × Int32) => s1) (fun (e1 : Int32) => e1))) h rfl
        · intro j6 fj6 Jj6 h
          refine eIF h (fun c7 h => ?_) (fun c7 h => ?_)
          · exact Jj6 _ h
          · refine eIF h (fun c8 h => ?_) (fun c8 h => ?_)
            · exact Jj6 _ h
            · exact Jj6 _ h
      · intro j9 fj9 Jj9 h
        refine eJN (fun j10 fj10 => j10 = some x1 → fj10 = some (Sum.map (fun (s1 : Int32 × Int32) => s1) (fun (e1 : Int32) => e1) x1)) h ?_ ?_
        · intro h
          exact Jj9 _ h
        · intro j10 fj10 Jj10 h
          refine eIF h (fun c11 h => ?_) (fun c11 h => ?_)
          · exact Jj10 h
          · refine eCV (kd_72 hL) (Nat.le_of_ble_eq_true rfl) (fun _ hv => E_X5_hour_ok hn hL hv) h (fun v12 h => ?_)
            refine eCV (kd_72 hL) (Nat.le_of_ble_eq_true rfl) (fun _ hv => E_X5_hour_ok hn hL hv) h (fun v13 h => ?_)
            refine eIF h (fun c14 h => ?_) (fun c14 h => ?_)
            · exact Jj9 _ h
            · exact Jj10 h
  · intro e1 h
    exact eLeaf (θ := (fun (o : Int32) => o)) h rfl
