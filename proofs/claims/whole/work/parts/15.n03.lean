-- OnlyUpward.judge()I
set_option maxRecDepth 100000 in
set_option maxHeartbeats 4000000 in
def E_X11_judge (n : Nat) (S : ST) (tw : Nat) : Option (Int32 × ST) :=
  (E_X11_planCourse n S tw).bind fun S2 => (E_X1_firstNotDone n S2 76).bind fun v3 => some (v3, S2)
set_option maxRecDepth 100000 in
set_option maxHeartbeats 4000000 in
theorem E_X11_judge_ok {n : Nat} (hn : 30000 ≤ n) {K : AK} {R : Nat → Nat → Option Nat} {S : ST} {tw en : Nat} (hL : Lay K R tw en) {o : (Int32 × ST)} (h : E_X11_judge n S tw = some o) : F_X11_judge n (mkM K R S) 8 = some (o.1, mkM K R o.2) := by
  unfold E_X11_judge at h
  unfold F_X11_judge
  refine eCwrV (kd_8 hL) (Nat.le_of_ble_eq_true rfl) (fun _ hv => E_X11_planCourse_ok hn hL hv) h (fun S2 h => ?_)
  refine eGR (kd_8 hL) (Nat.le_of_ble_eq_true rfl) (rd_8_8 hL) ?_
  refine eCV (kd_76 hL) (Nat.le_of_ble_eq_true rfl) (fun _ hv => E_X1_firstNotDone_ok hn hL (layC_76 hL) hv) h (fun v3 h => ?_)
  exact eLeaf (θ := (fun (o : (Int32 × ST)) => (o.1, mkM K R o.2))) h rfl
-- OnlyUpward.cost()I
set_option maxRecDepth 100000 in
set_option maxHeartbeats 4000000 in
def E_X11_cost (n : Nat) (S : ST) (tw : Nat) : Option (Int32 × ST) :=
  (E_X11_planCourse n S tw).bind fun S2 => some ((S2.1 76 4), S2)
set_option maxRecDepth 100000 in
set_option maxHeartbeats 4000000 in
theorem E_X11_cost_ok {n : Nat} (hn : 30000 ≤ n) {K : AK} {R : Nat → Nat → Option Nat} {S : ST} {tw en : Nat} (hL : Lay K R tw en) {o : (Int32 × ST)} (h : E_X11_cost n S tw = some o) : F_X11_cost n (mkM K R S) 8 = some (o.1, mkM K R o.2) := by
  unfold E_X11_cost at h
  unfold F_X11_cost
  refine eCwrV (kd_8 hL) (Nat.le_of_ble_eq_true rfl) (fun _ hv => E_X11_planCourse_ok hn hL hv) h (fun S2 h => ?_)
  refine eGI (kd_76 hL) (Nat.le_of_ble_eq_true rfl) ?_
  exact eLeaf (θ := (fun (o : (Int32 × ST)) => (o.1, mkM K R o.2))) h rfl
-- OnlyUpward.isHourOrEnd(I)Z
set_option maxRecDepth 100000 in
set_option maxHeartbeats 4000000 in
def E_X11_isHourOrEnd (n : Nat) (S : ST) (a0 : Int32) : Option Int32 :=
  if a0 < 0 then some (0 : Int32) else if (24 : Int32) < a0 then some (0 : Int32) else some (1 : Int32)
set_option maxRecDepth 100000 in
set_option maxHeartbeats 4000000 in
theorem E_X11_isHourOrEnd_ok {n : Nat} (hn : 30000 ≤ n) {K : AK} {R : Nat → Nat → Option Nat} {S : ST} {a0 : Int32} {tz en : Nat} (hL : Lay K R tz en) {o : Int32} (h : E_X11_isHourOrEnd n S a0 = some o) : F_X11_isHourOrEnd n (mkM K R S) a0 = some o := by
  unfold E_X11_isHourOrEnd at h
  unfold F_X11_isHourOrEnd
  refine eIF h (fun c1 h => ?_) (fun c1 h => ?_)
  · exact eLeaf (θ := (fun (o : Int32) => o)) h rfl
  · refine eIF h (fun c2 h => ?_) (fun c2 h => ?_)
    · exact eLeaf (θ := (fun (o : Int32) => o)) h rfl
    · exact eLeaf (θ := (fun (o : Int32) => o)) h rfl
-- OnlyUpward$Knowledge.thingsOf(II)I
set_option maxRecDepth 100000 in
set_option maxHeartbeats 4000000 in
def E_X3_thingsOf (n : Nat) (S : ST) (k : Nat) (a1 : Int32) (a2 : Int32) : Option Int32 :=
  (iter (fun (s1 : Int32 × Int32) => if (6 : Int32) ≤ s1.2 then some (.inr s1.1) else (E_X3_has n S k a1 s1.2 a2).bind fun v3 => jn (fun (u4 : Int32) => some (.inl (u4, (s1.2 + (1 : Int32))))) fun j5 => if v3 = 0 then j5 s1.1 else j5 (s1.1 ||| ((1 : Int32) <<< (s1.2 &&& 31)))) n ((0 : Int32), (0 : Int32))).bind fun (e1 : Int32) => some e1
set_option maxRecDepth 100000 in
set_option maxHeartbeats 4000000 in
theorem E_X3_thingsOf_ok {n : Nat} (hn : 30000 ≤ n) {K : AK} {R : Nat → Nat → Option Nat} {S : ST} {k : Nat} {a1 : Int32} {a2 : Int32} {tz en : Nat} (hL : Lay K R tz en) (hk : LN K R k) {o : Int32} (h : E_X3_thingsOf n S k a1 a2 = some o) : F_X3_thingsOf n (mkM K R S) k a1 a2 = some o := by
  unfold E_X3_thingsOf at h
  unfold F_X3_thingsOf
  refine eLP (fun (s1 : Int32 × Int32) => s1) (fun (e1 : Int32) => e1) h rfl ?_ ?_
  · intro s1 x1 h
    refine eIF h (fun c2 h => ?_) (fun c2 h => ?_)
    · exact eLeaf (θ := (Sum.map (fun (s1 : Int32 × Int32) => s1) (fun (e1 : Int32) => e1))) h rfl
    · refine eCV (kN_0 hk) (k8N 0 hk) (fun _ hv => E_X3_has_ok hn hL hk hv) h (fun v3 h => ?_)
      refine eJN (fun j5 fj5 => ∀ (u4 : Int32), j5 u4 = some x1 → fj5 u4 = some (Sum.map (fun (s1 : Int32 × Int32) => s1) (fun (e1 : Int32) => e1) x1)) h ?_ ?_
      · intro u4 h
        exact eLeaf (θ := (Sum.map (fun (s1 : Int32 × Int32) => s1) (fun (e1 : Int32) => e1))) h rfl
      · intro j5 fj5 Jj5 h
        refine eIF h (fun c6 h => ?_) (fun c6 h => ?_)
        · exact Jj5 _ h
        · exact Jj5 _ h
  · intro e1 h
    exact eLeaf (θ := (fun (o : Int32) => o)) h rfl
-- OnlyUpward.knows(II)I
set_option maxRecDepth 100000 in
set_option maxHeartbeats 4000000 in
def E_X11_knows (n : Nat) (S : ST) (tw : Nat) (a1 : Int32) (a2 : Int32) : Option (Int32 × ST) :=
  (E_X11_isOne n S tw (1 : Int32) a1).bind fun v1 => if v1 = 0 then some ((-1 : Int32), S) else (E_X11_isHourOrEnd n S a2).bind fun v3 => if v3 = 0 then some ((-1 : Int32), S) else (E_X11_planCourse n S tw).bind fun S6 => (E_X3_thingsOf n S6 77 a1 a2).bind fun v7 => some (v7, S6)
set_option maxRecDepth 100000 in
set_option maxHeartbeats 4000000 in
theorem E_X11_knows_ok {n : Nat} (hn : 30000 ≤ n) {K : AK} {R : Nat → Nat → Option Nat} {S : ST} {a1 : Int32} {a2 : Int32} {tw en : Nat} (hL : Lay K R tw en) {o : (Int32 × ST)} (h : E_X11_knows n S tw a1 a2 = some o) : F_X11_knows n (mkM K R S) 8 a1 a2 = some (o.1, mkM K R o.2) := by
  unfold E_X11_knows at h
  unfold F_X11_knows
  refine eCV (kd_8 hL) (Nat.le_of_ble_eq_true rfl) (fun _ hv => E_X11_isOne_ok hn hL hv) h (fun v1 h => ?_)
  refine eIF h (fun c2 h => ?_) (fun c2 h => ?_)
  · exact eLeaf (θ := (fun (o : (Int32 × ST)) => (o.1, mkM K R o.2))) h rfl
  · refine eCS (fun _ hv => E_X11_isHourOrEnd_ok hn hL hv) h (fun v3 h => ?_)
    refine eIF h (fun c4 h => ?_) (fun c4 h => ?_)
    · exact eLeaf (θ := (fun (o : (Int32 × ST)) => (o.1, mkM K R o.2))) h rfl
    · refine eCwrV (kd_8 hL) (Nat.le_of_ble_eq_true rfl) (fun _ hv => E_X11_planCourse_ok hn hL hv) h (fun S6 h => ?_)
      refine eGR (kd_76 hL) (Nat.le_of_ble_eq_true rfl) (rd_76_0 hL) ?_
      refine eCV (kd_77 hL) (Nat.le_of_ble_eq_true rfl) (fun _ hv => E_X3_thingsOf_ok hn hL (layN_77 hL) hv) h (fun v7 h => ?_)
      exact eLeaf (θ := (fun (o : (Int32 × ST)) => (o.1, mkM K R o.2))) h rfl
-- OnlyUpward.orNever(I)I
set_option maxRecDepth 100000 in
set_option maxHeartbeats 4000000 in
def E_X11_orNever (n : Nat) (S : ST) (a0 : Int32) : Option Int32 :=
  if a0 ≤ (24 : Int32) then some a0 else some (-2 : Int32)
set_option maxRecDepth 100000 in
set_option maxHeartbeats 4000000 in
theorem E_X11_orNever_ok {n : Nat} (hn : 30000 ≤ n) {K : AK} {R : Nat → Nat → Option Nat} {S : ST} {a0 : Int32} {tz en : Nat} (hL : Lay K R tz en) {o : Int32} (h : E_X11_orNever n S a0 = some o) : F_X11_orNever n (mkM K R S) a0 = some o := by
  unfold E_X11_orNever at h
  unfold F_X11_orNever
  refine eIF h (fun c1 h => ?_) (fun c1 h => ?_)
  · exact eLeaf (θ := (fun (o : Int32) => o)) h rfl
  · exact eLeaf (θ := (fun (o : Int32) => o)) h rfl
-- OnlyUpward.when(II)I
set_option maxRecDepth 100000 in
set_option maxHeartbeats 4000000 in
def E_X11_when (n : Nat) (S : ST) (tw : Nat) (a1 : Int32) (a2 : Int32) : Option (Int32 × ST) :=
  (E_X11_isOne n S tw (1 : Int32) a1).bind fun v1 => if v1 = 0 then some ((-1 : Int32), S) else (E_X11_isOne n S tw (2 : Int32) a2).bind fun v3 => if v3 = 0 then some ((-1 : Int32), S) else (E_X11_planCourse n S tw).bind fun S6 => (E_X3_firstHour n S6 77 a1 a2).bind fun v7 => (E_X11_orNever n S6 v7).bind fun v8 => some (v8, S6)
set_option maxRecDepth 100000 in
set_option maxHeartbeats 4000000 in
theorem E_X11_when_ok {n : Nat} (hn : 30000 ≤ n) {K : AK} {R : Nat → Nat → Option Nat} {S : ST} {a1 : Int32} {a2 : Int32} {tw en : Nat} (hL : Lay K R tw en) {o : (Int32 × ST)} (h : E_X11_when n S tw a1 a2 = some o) : F_X11_when n (mkM K R S) 8 a1 a2 = some (o.1, mkM K R o.2) := by
  unfold E_X11_when at h
  unfold F_X11_when
  refine eCV (kd_8 hL) (Nat.le_of_ble_eq_true rfl) (fun _ hv => E_X11_isOne_ok hn hL hv) h (fun v1 h => ?_)
  refine eIF h (fun c2 h => ?_) (fun c2 h => ?_)
  · exact eLeaf (θ := (fun (o : (Int32 × ST)) => (o.1, mkM K R o.2))) h rfl
  · refine eCV (kd_8 hL) (Nat.le_of_ble_eq_true rfl) (fun _ hv => E_X11_isOne_ok hn hL hv) h (fun v3 h => ?_)
    refine eIF h (fun c4 h => ?_) (fun c4 h => ?_)
    · exact eLeaf (θ := (fun (o : (Int32 × ST)) => (o.1, mkM K R o.2))) h rfl
    · refine eCwrV (kd_8 hL) (Nat.le_of_ble_eq_true rfl) (fun _ hv => E_X11_planCourse_ok hn hL hv) h (fun S6 h => ?_)
      refine eGR (kd_76 hL) (Nat.le_of_ble_eq_true rfl) (rd_76_0 hL) ?_
      refine eCV (kd_77 hL) (Nat.le_of_ble_eq_true rfl) (fun _ hv => E_X3_firstHour_ok hn hL (layN_77 hL) hv) h (fun v7 h => ?_)
      refine eCS (fun _ hv => E_X11_orNever_ok hn hL hv) h (fun v8 h => ?_)
      exact eLeaf (θ := (fun (o : (Int32 × ST)) => (o.1, mkM K R o.2))) h rfl
-- OnlyUpward$Course.seenThings(III)I
set_option maxRecDepth 100000 in
set_option maxHeartbeats 4000000 in
def E_X1_seenThings (n : Nat) (S : ST) (c : Nat) (a1 : Int32) (a2 : Int32) (a3 : Int32) : Option Int32 :=
  (iter (fun (s1 : Int32 × Int32) => if (6 : Int32) ≤ s1.2 then some (.inr s1.1) else (rd (S.1 (c + 3)) 600 ((((a1 * (10 : Int32)) + a2) * (6 : Int32)) + s1.2)).bind fun v3 => jn (fun (u4 : Int32) => some (.inl (u4, (s1.2 + (1 : Int32))))) fun j5 => if a3 < v3 then j5 s1.1 else j5 (s1.1 ||| ((1 : Int32) <<< (s1.2 &&& 31)))) n ((0 : Int32), (0 : Int32))).bind fun (e1 : Int32) => some e1
set_option maxRecDepth 100000 in
set_option maxHeartbeats 4000000 in
theorem E_X1_seenThings_ok {n : Nat} (hn : 30000 ≤ n) {K : AK} {R : Nat → Nat → Option Nat} {S : ST} {c : Nat} {a1 : Int32} {a2 : Int32} {a3 : Int32} {tz en : Nat} (hL : Lay K R tz en) (hc : LC K R c) {o : Int32} (h : E_X1_seenThings n S c a1 a2 a3 = some o) : F_X1_seenThings n (mkM K R S) c a1 a2 a3 = some o := by
  unfold E_X1_seenThings at h
  unfold F_X1_seenThings
  refine eLP (fun (s1 : Int32 × Int32) => s1) (fun (e1 : Int32) => e1) h rfl ?_ ?_
  · intro s1 x1 h
    refine eIF h (fun c2 h => ?_) (fun c2 h => ?_)
    · exact eLeaf (θ := (Sum.map (fun (s1 : Int32 × Int32) => s1) (fun (e1 : Int32) => e1))) h rfl
    · refine eGR (kC_0 hc) (k8C 0 hc) (rC_0_1 hc) ?_
      refine eRI (kC_3 hc) h (fun v3 h => ?_)
      refine eJN (fun j5 fj5 => ∀ (u4 : Int32), j5 u4 = some x1 → fj5 u4 = some (Sum.map (fun (s1 : Int32 × Int32) => s1) (fun (e1 : Int32) => e1) x1)) h ?_ ?_
      · intro u4 h
        exact eLeaf (θ := (Sum.map (fun (s1 : Int32 × Int32) => s1) (fun (e1 : Int32) => e1))) h rfl
      · intro j5 fj5 Jj5 h
        refine eIF h (fun c6 h => ?_) (fun c6 h => ?_)
        · exact Jj5 _ h
        · exact Jj5 _ h
  · intro e1 h
    exact eLeaf (θ := (fun (o : Int32) => o)) h rfl
-- OnlyUpward.seen(III)I
set_option maxRecDepth 100000 in
set_option maxHeartbeats 4000000 in
def E_X11_seen (n : Nat) (S : ST) (tw : Nat) (a1 : Int32) (a2 : Int32) (a3 : Int32) : Option (Int32 × ST) :=
  (E_X11_areTwo n S tw a1 a2).bind fun v1 => if v1 = 0 then some ((-1 : Int32), S) else (E_X11_isHourOrEnd n S a3).bind fun v3 => if v3 = 0 then some ((-1 : Int32), S) else (E_X11_planCourse n S tw).bind fun S6 => (E_X1_seenThings n S6 76 a1 a2 a3).bind fun v7 => some (v7, S6)
set_option maxRecDepth 100000 in
set_option maxHeartbeats 4000000 in
theorem E_X11_seen_ok {n : Nat} (hn : 30000 ≤ n) {K : AK} {R : Nat → Nat → Option Nat} {S : ST} {a1 : Int32} {a2 : Int32} {a3 : Int32} {tw en : Nat} (hL : Lay K R tw en) {o : (Int32 × ST)} (h : E_X11_seen n S tw a1 a2 a3 = some o) : F_X11_seen n (mkM K R S) 8 a1 a2 a3 = some (o.1, mkM K R o.2) := by
  unfold E_X11_seen at h
  unfold F_X11_seen
  refine eCV (kd_8 hL) (Nat.le_of_ble_eq_true rfl) (fun _ hv => E_X11_areTwo_ok hn hL hv) h (fun v1 h => ?_)
  refine eIF h (fun c2 h => ?_) (fun c2 h => ?_)
  · exact eLeaf (θ := (fun (o : (Int32 × ST)) => (o.1, mkM K R o.2))) h rfl
  · refine eCS (fun _ hv => E_X11_isHourOrEnd_ok hn hL hv) h (fun v3 h => ?_)
    refine eIF h (fun c4 h => ?_) (fun c4 h => ?_)
    · exact eLeaf (θ := (fun (o : (Int32 × ST)) => (o.1, mkM K R o.2))) h rfl
    · refine eCwrV (kd_8 hL) (Nat.le_of_ble_eq_true rfl) (fun _ hv => E_X11_planCourse_ok hn hL hv) h (fun S6 h => ?_)
      refine eCV (kd_76 hL) (Nat.le_of_ble_eq_true rfl) (fun _ hv => E_X1_seenThings_ok hn hL (layC_76 hL) hv) h (fun v7 h => ?_)
      exact eLeaf (θ := (fun (o : (Int32 × ST)) => (o.1, mkM K R o.2))) h rfl
-- OnlyUpward.isSet(I)Z
set_option maxRecDepth 100000 in
set_option maxHeartbeats 4000000 in
def E_X11_isSet (n : Nat) (S : ST) (tw : Nat) (a1 : Int32) : Option Int32 :=
  (rd (S.1 (tw + 1)) 11 (1 : Int32)).bind fun v1 => if (ush a1 v1) = 0 then some (1 : Int32) else some (0 : Int32)
set_option maxRecDepth 100000 in
set_option maxHeartbeats 4000000 in
theorem E_X11_isSet_ok {n : Nat} (hn : 30000 ≤ n) {K : AK} {R : Nat → Nat → Option Nat} {S : ST} {a1 : Int32} {tw en : Nat} (hL : Lay K R tw en) {o : Int32} (h : E_X11_isSet n S tw a1 = some o) : F_X11_isSet n (mkM K R S) 8 a1 = some o := by
  unfold E_X11_isSet at h
  unfold F_X11_isSet
  refine eGR (kd_8 hL) (Nat.le_of_ble_eq_true rfl) (rd_told hL) ?_
  refine eGR (kW_0 (layT hL)) (k8W 0 (layT hL)) (rW_0_0 (layT hL)) ?_
  refine eRI (kW_1 (layT hL)) h (fun v1 h => ?_)
  refine eIF h (fun c2 h => ?_) (fun c2 h => ?_)
  · exact eLeaf (θ := (fun (o : Int32) => o)) h rfl
  · exact eLeaf (θ := (fun (o : Int32) => o)) h rfl
-- OnlyUpward.canSpread(III)Z
set_option maxRecDepth 100000 in
set_option maxHeartbeats 4000000 in
def E_X11_canSpread (n : Nat) (S : ST) (tw : Nat) (a1 : Int32) (a2 : Int32) (a3 : Int32) : Option Int32 :=
  (E_X11_isOne n S tw (2 : Int32) a1).bind fun v1 => if v1 = 0 then some (0 : Int32) else (E_X11_isSet n S tw a2).bind fun v3 => if v3 = 0 then some (0 : Int32) else (E_X11_isHour n S a3).bind fun v5 => if v5 = 0 then some (0 : Int32) else some (1 : Int32)
set_option maxRecDepth 100000 in
set_option maxHeartbeats 4000000 in
theorem E_X11_canSpread_ok {n : Nat} (hn : 30000 ≤ n) {K : AK} {R : Nat → Nat → Option Nat} {S : ST} {a1 : Int32} {a2 : Int32} {a3 : Int32} {tw en : Nat} (hL : Lay K R tw en) {o : Int32} (h : E_X11_canSpread n S tw a1 a2 a3 = some o) : F_X11_canSpread n (mkM K R S) 8 a1 a2 a3 = some o := by
  unfold E_X11_canSpread at h
  unfold F_X11_canSpread
  refine eCV (kd_8 hL) (Nat.le_of_ble_eq_true rfl) (fun _ hv => E_X11_isOne_ok hn hL hv) h (fun v1 h => ?_)
  refine eIF h (fun c2 h => ?_) (fun c2 h => ?_)
  · exact eLeaf (θ := (fun (o : Int32) => o)) h rfl
  · refine eCV (kd_8 hL) (Nat.le_of_ble_eq_true rfl) (fun _ hv => E_X11_isSet_ok hn hL hv) h (fun v3 h => ?_)
    refine eIF h (fun c4 h => ?_) (fun c4 h => ?_)
    · exact eLeaf (θ := (fun (o : Int32) => o)) h rfl
    · refine eCS (fun _ hv => E_X11_isHour_ok hn hL hv) h (fun v5 h => ?_)
      refine eIF h (fun c6 h => ?_) (fun c6 h => ?_)
      · exact eLeaf (θ := (fun (o : Int32) => o)) h rfl
      · exact eLeaf (θ := (fun (o : Int32) => o)) h rfl
-- OnlyUpward.isLaw(I)Z
set_option maxRecDepth 100000 in
set_option maxHeartbeats 4000000 in
def E_X11_isLaw (n : Nat) (S : ST) (a0 : Int32) : Option Int32 :=
  if a0 < 0 then some (0 : Int32) else if (3 : Int32) < a0 then some (0 : Int32) else some (1 : Int32)
set_option maxRecDepth 100000 in
set_option maxHeartbeats 4000000 in
theorem E_X11_isLaw_ok {n : Nat} (hn : 30000 ≤ n) {K : AK} {R : Nat → Nat → Option Nat} {S : ST} {a0 : Int32} {tz en : Nat} (hL : Lay K R tz en) {o : Int32} (h : E_X11_isLaw n S a0 = some o) : F_X11_isLaw n (mkM K R S) a0 = some o := by
  unfold E_X11_isLaw at h
  unfold F_X11_isLaw
  refine eIF h (fun c1 h => ?_) (fun c1 h => ?_)
  · exact eLeaf (θ := (fun (o : Int32) => o)) h rfl
  · refine eIF h (fun c2 h => ?_) (fun c2 h => ?_)
    · exact eLeaf (θ := (fun (o : Int32) => o)) h rfl
    · exact eLeaf (θ := (fun (o : Int32) => o)) h rfl
-- OnlyUpward$Spread.isShown(LOnlyUpward$World;I)Z
set_option maxRecDepth 100000 in
set_option maxHeartbeats 4000000 in
def E_X7_isShown (n : Nat) (S : ST) (w : Nat) (a1 : Int32) : Option Int32 :=
  (iter (fun (s1 : Int32) => (rd (S.1 (w + 1)) 11 (7 : Int32)).bind fun v2 => if v2 ≤ s1 then some (.inr (.inl ())) else (rd (S.1 (w + 10)) 6 s1).bind fun v4 => if v4 = a1 then some (.inr (.inr (1 : Int32))) else some (.inl (s1 + (1 : Int32)))) n (0 : Int32)).bind fun (z1 : (Unit) ⊕ Int32) => Sum.elim (fun (e1 : Unit) => some (0 : Int32)) (fun (v : Int32) => some v) z1
set_option maxRecDepth 100000 in
set_option maxHeartbeats 4000000 in
theorem E_X7_isShown_ok {n : Nat} (hn : 30000 ≤ n) {K : AK} {R : Nat → Nat → Option Nat} {S : ST} {w : Nat} {a1 : Int32} {tz en : Nat} (hL : Lay K R tz en) (hw : LW K R w) {o : Int32} (h : E_X7_isShown n S w a1 = some o) : F_X7_isShown n (mkM K R S) w a1 = some o := by
  unfold E_X7_isShown at h
  unfold F_X7_isShown
  refine eLP (fun (s1 : Int32) => s1) (Sum.map (fun (e1 : Unit) => e1) (fun (v : Int32) => v)) h rfl ?_ ?_
  · intro s1 x1 h
    refine eGR (kW_0 hw) (k8W 0 hw) (rW_0_0 hw) ?_
    refine eRI (kW_1 hw) h (fun v2 h => ?_)
    refine eIF h (fun c3 h => ?_) (fun c3 h => ?_)
    · exact eLeaf (θ := (Sum.map (fun (s1 : Int32) => s1) (Sum.map (fun (e1 : Unit) => e1) (fun (v : Int32) => v)))) h rfl
    · refine eGR (kW_0 hw) (k8W 0 hw) (rW_0_9 hw) ?_
      refine eRI (kW_10 hw) h (fun v4 h => ?_)
      refine eIF h (fun c5 h => ?_) (fun c5 h => ?_)
      · exact eLeaf (θ := (Sum.map (fun (s1 : Int32) => s1) (Sum.map (fun (e1 : Unit) => e1) (fun (v : Int32) => v)))) h rfl
      · exact eLeaf (θ := (Sum.map (fun (s1 : Int32) => s1) (Sum.map (fun (e1 : Unit) => e1) (fun (v : Int32) => v)))) h rfl
  · intro z1 h
    rcases z1 with e1 | v
    · have h := sum_inl h
      exact eLeaf (θ := (fun (o : Int32) => o)) h rfl
    · have h := sum_inr h
      exact eLeaf (θ := (fun (o : Int32) => o)) h rfl
-- OnlyUpward$Spread.note(II)V
set_option maxRecDepth 100000 in
set_option maxHeartbeats 4000000 in
def E_X7_note (n : Nat) (S : ST) (a1 : Int32) (a2 : Int32) : Option ST :=
  (iter (fun (s1 : Int32 × ST) => if (10 : Int32) ≤ s1.1 then some (.inr s1.2) else (E_X11_hasBit n s1.2 a1 s1.1).bind fun v3 => jn (fun (S4 : ST) => some (.inl ((s1.1 + (1 : Int32)), S4))) fun j5 => if v3 = 0 then j5 s1.2 else (wr s1.2 89 10 s1.1 a2).bind fun S7 => j5 S7) n ((0 : Int32), S)).bind fun (e1 : ST) => some e1
set_option maxRecDepth 100000 in
set_option maxHeartbeats 4000000 in
theorem E_X7_note_ok {n : Nat} (hn : 30000 ≤ n) {K : AK} {R : Nat → Nat → Option Nat} {S : ST} {a1 : Int32} {a2 : Int32} {tz en : Nat} (hL : Lay K R tz en) {o : ST} (h : E_X7_note n S a1 a2 = some o) : F_X7_note n (mkM K R S) 88 a1 a2 = some (mkM K R o) := by
  unfold E_X7_note at h
  unfold F_X7_note
  refine eLP (fun (s1 : Int32 × ST) => (s1.1, mkM K R s1.2)) (fun (e1 : ST) => mkM K R e1) h rfl ?_ ?_
  · intro s1 x1 h
    refine eIF h (fun c2 h => ?_) (fun c2 h => ?_)
    · exact eLeaf (θ := (Sum.map (fun (s1 : Int32 × ST) => (s1.1, mkM K R s1.2)) (fun (e1 : ST) => mkM K R e1))) h rfl
    · refine eCS (fun _ hv => E_X11_hasBit_ok hn hL hv) h (fun v3 h => ?_)
      refine eJN (fun j5 fj5 => ∀ (S4 : ST), j5 S4 = some x1 → fj5 (mkM K R S4) = some (Sum.map (fun (s1 : Int32 × ST) => (s1.1, mkM K R s1.2)) (fun (e1 : ST) => mkM K R e1) x1)) h ?_ ?_
      · intro S4 h
        exact eLeaf (θ := (Sum.map (fun (s1 : Int32 × ST) => (s1.1, mkM K R s1.2)) (fun (e1 : ST) => mkM K R e1))) h rfl
      · intro j5 fj5 Jj5 h
        refine eIF h (fun c6 h => ?_) (fun c6 h => ?_)
        · exact Jj5 _ h
        · refine eGR (kd_88 hL) (Nat.le_of_ble_eq_true rfl) (rd_88_0 hL) ?_
          refine eWI (kd_89 hL) (Nat.le_of_ble_eq_true rfl) h (fun S7 h => ?_)
          exact Jj5 _ h
  · intro e1 h
    exact eLeaf (θ := (fun (o : ST) => (mkM K R o))) h rfl
-- OnlyUpward$World.sayTo(II)I
set_option maxRecDepth 100000 in
set_option maxHeartbeats 4000000 in
def E_X10_sayTo (n : Nat) (S : ST) (w : Nat) (a1 : Int32) (a2 : Int32) : Option Int32 :=
  (rd (S.1 (w + 24)) 240 ((a1 * (24 : Int32)) + a2)).bind fun v1 => some v1
set_option maxRecDepth 100000 in
set_option maxHeartbeats 4000000 in
theorem E_X10_sayTo_ok {n : Nat} (hn : 30000 ≤ n) {K : AK} {R : Nat → Nat → Option Nat} {S : ST} {w : Nat} {a1 : Int32} {a2 : Int32} {tz en : Nat} (hL : Lay K R tz en) (hw : LW K R w) {o : Int32} (h : E_X10_sayTo n S w a1 a2 = some o) : F_X10_sayTo n (mkM K R S) w a1 a2 = some o := by
  unfold E_X10_sayTo at h
  unfold F_X10_sayTo
  refine eGR (kW_0 hw) (k8W 0 hw) (rW_0_16 hw) ?_
  refine eRI (kW_24 hw) h (fun v1 h => ?_)
  exact eLeaf (θ := (fun (o : Int32) => o)) h rfl
-- OnlyUpward$Spread.speaks(LOnlyUpward$World;III)Z
set_option maxRecDepth 100000 in
set_option maxHeartbeats 4000000 in
def E_X7_speaks (n : Nat) (S : ST) (w : Nat) (a1 : Int32) (a2 : Int32) (a3 : Int32) : Option Int32 :=
  if a3 = 0 then (E_X10_sayTo n S w a1 a2).bind fun v2 => if v2 = 0 then some (0 : Int32) else some (1 : Int32) else (E_X10_placeOf n S w a1 a2).bind fun v4 => (E_X10_standers n S w v4 a2).bind fun v5 => lets (v5 &&& (((1 : Int32) <<< (a1 &&& 31)) ^^^ (-1 : Int32))) fun (w6 : Int32) => if a3 = (1 : Int32) then (iter (fun (s8 : Int32) => (rd (S.1 (w + 1)) 11 (1 : Int32)).bind fun v9 => if v9 ≤ s8 then some (.inr (.inl ())) else (E_X11_hasBit n S w6 s8).bind fun v11 => jn (some (.inl (s8 + (1 : Int32)))) fun j12 => if v11 = 0 then j12 else (E_X10_ageAt n S w s8 a2).bind fun v14 => (E_X10_ageAt n S w a1 a2).bind fun v15 => if v15 < v14 then j12 else some (.inr (.inr (1 : Int32)))) n (0 : Int32)).bind fun (z8 : (Unit) ⊕ Int32) => Sum.elim (fun (e8 : Unit) => some (0 : Int32)) (fun (v : Int32) => some v) z8 else if a3 = (2 : Int32) then if w6 = 0 then some (0 : Int32) else some (1 : Int32) else some (0 : Int32)
set_option maxRecDepth 100000 in
set_option maxHeartbeats 4000000 in
theorem E_X7_speaks_ok {n : Nat} (hn : 30000 ≤ n) {K : AK} {R : Nat → Nat → Option Nat} {S : ST} {w : Nat} {a1 : Int32} {a2 : Int32} {a3 : Int32} {tz en : Nat} (hL : Lay K R tz en) (hw : LW K R w) {o : Int32} (h : E_X7_speaks n S w a1 a2 a3 = some o) : F_X7_speaks n (mkM K R S) w a1 a2 a3 = some o := by
  unfold E_X7_speaks at h
  unfold F_X7_speaks
  refine eIF h (fun c1 h => ?_) (fun c1 h => ?_)
  · refine eCV (kW_0 hw) (k8W 0 hw) (fun _ hv => E_X10_sayTo_ok hn hL hw hv) h (fun v2 h => ?_)
    refine eIF h (fun c3 h => ?_) (fun c3 h => ?_)
    · exact eLeaf (θ := (fun (o : Int32) => o)) h rfl
    · exact eLeaf (θ := (fun (o : Int32) => o)) h rfl
  · refine eCV (kW_0 hw) (k8W 0 hw) (fun _ hv => E_X10_placeOf_ok hn hL hw hv) h (fun v4 h => ?_)
    refine eCV (kW_0 hw) (k8W 0 hw) (fun _ hv => E_X10_standers_ok hn hL hw hv) h (fun v5 h => ?_)
    refine eLT h (fun w6 h => ?_)
    refine eIF h (fun c7 h => ?_) (fun c7 h => ?_)
    · refine eLP (fun (s8 : Int32) => s8) (Sum.map (fun (e8 : Unit) => e8) (fun (v : Int32) => v)) h rfl ?_ ?_
      · intro s8 x8 h
        refine eGR (kW_0 hw) (k8W 0 hw) (rW_0_0 hw) ?_
        refine eRI (kW_1 hw) h (fun v9 h => ?_)
        refine eIF h (fun c10 h => ?_) (fun c10 h => ?_)
        · exact eLeaf (θ := (Sum.map (fun (s8 : Int32) => s8) (Sum.map (fun (e8 : Unit) => e8) (fun (v : Int32) => v)))) h rfl
        · refine eCS (fun _ hv => E_X11_hasBit_ok hn hL hv) h (fun v11 h => ?_)
          refine eJN (fun j12 fj12 => j12 = some x8 → fj12 = some (Sum.map (fun (s8 : Int32) => s8) (Sum.map (fun (e8 : Unit) => e8) (fun (v : Int32) => v)) x8)) h ?_ ?_
          · intro h
            exact eLeaf (θ := (Sum.map (fun (s8 : Int32) => s8) (Sum.map (fun (e8 : Unit) => e8) (fun (v : Int32) => v)))) h rfl
          · intro j12 fj12 Jj12 h
            refine eIF h (fun c13 h => ?_) (fun c13 h => ?_)
            · exact Jj12 h
            · refine eCV (kW_0 hw) (k8W 0 hw) (fun _ hv => E_X10_ageAt_ok hn hL hw hv) h (fun v14 h => ?_)
              refine eCV (kW_0 hw) (k8W 0 hw) (fun _ hv => E_X10_ageAt_ok hn hL hw hv) h (fun v15 h => ?_)
              refine eIF h (fun c16 h => ?_) (fun c16 h => ?_)
              · exact Jj12 h
              · exact eLeaf (θ := (Sum.map (fun (s8 : Int32) => s8) (Sum.map (fun (e8 : Unit) => e8) (fun (v : Int32) => v)))) h rfl
      · intro z8 h
        rcases z8 with e8 | v
        · have h := sum_inl h
          exact eLeaf (θ := (fun (o : Int32) => o)) h rfl
        · have h := sum_inr h
          exact eLeaf (θ := (fun (o : Int32) => o)) h rfl
    · refine eIF h (fun c17 h => ?_) (fun c17 h => ?_)
      · refine eIF h (fun c18 h => ?_) (fun c18 h => ?_)
        · exact eLeaf (θ := (fun (o : Int32) => o)) h rfl
        · exact eLeaf (θ := (fun (o : Int32) => o)) h rfl
      · exact eLeaf (θ := (fun (o : Int32) => o)) h rfl
-- OnlyUpward$Spread.toldOrShown(LOnlyUpward$World;IIIZ)I
set_option maxRecDepth 100000 in
set_option maxHeartbeats 4000000 in
def E_X7_toldOrShown (n : Nat) (S : ST) (w : Nat) (a1 : Int32) (a2 : Int32) (a3 : Int32) (a4 : Int32) : Option Int32 :=
  (iter (fun (s1 : Int32 × Int32) => (rd (S.1 (w + 1)) 11 (1 : Int32)).bind fun v2 => if v2 ≤ s1.2 then some (.inr s1.1) else (E_X11_hasBit n S a1 s1.2).bind fun v4 => jn (fun (u5 : Int32) => some (.inl (u5, (s1.2 + (1 : Int32))))) fun j6 => if v4 = 0 then j6 s1.1 else (E_X10_placeOf n S w s1.2 a2).bind fun v8 => (E_X7_speaks n S w s1.2 a2 a3).bind fun v9 => jn (fun (u10 : Int32) => jn (fun (u11 : Int32) => j6 ((s1.1 ||| u10) ||| u11)) fun j12 => if a4 = 0 then j12 (0 : Int32) else (E_X10_standers n S w v8 a2).bind fun v14 => j12 v14) fun j15 => if v9 = 0 then j15 (0 : Int32) else (E_X10_hearers n S w v8 a2).bind fun v17 => j15 v17) n ((0 : Int32), (0 : Int32))).bind fun (e1 : Int32) => some e1
set_option maxRecDepth 100000 in
set_option maxHeartbeats 4000000 in
theorem E_X7_toldOrShown_ok {n : Nat} (hn : 30000 ≤ n) {K : AK} {R : Nat → Nat → Option Nat} {S : ST} {w : Nat} {a1 : Int32} {a2 : Int32} {a3 : Int32} {a4 : Int32} {tz en : Nat} (hL : Lay K R tz en) (hw : LW K R w) {o : Int32} (h : E_X7_toldOrShown n S w a1 a2 a3 a4 = some o) : F_X7_toldOrShown n (mkM K R S) w a1 a2 a3 a4 = some o := by
  unfold E_X7_toldOrShown at h
  unfold F_X7_toldOrShown
  refine eLP (fun (s1 : Int32 × Int32) => s1) (fun (e1 : Int32) => e1) h rfl ?_ ?_
  · intro s1 x1 h
    refine eGR (kW_0 hw) (k8W 0 hw) (rW_0_0 hw) ?_
    refine eRI (kW_1 hw) h (fun v2 h => ?_)
    refine eIF h (fun c3 h => ?_) (fun c3 h => ?_)
    · exact eLeaf (θ := (Sum.map (fun (s1 : Int32 × Int32) => s1) (fun (e1 : Int32) => e1))) h rfl
    · refine eCS (fun _ hv => E_X11_hasBit_ok hn hL hv) h (fun v4 h => ?_)
      refine eJN (fun j6 fj6 => ∀ (u5 : Int32), j6 u5 = some x1 → fj6 u5 = some (Sum.map (fun (s1 : Int32 × Int32) => s1) (fun (e1 : Int32) => e1) x1)) h ?_ ?_
      · intro u5 h
        exact eLeaf (θ := (Sum.map (fun (s1 : Int32 × Int32) => s1) (fun (e1 : Int32) => e1))) h rfl
      · intro j6 fj6 Jj6 h
        refine eIF h (fun c7 h => ?_) (fun c7 h => ?_)
        · exact Jj6 _ h
        · refine eCV (kW_0 hw) (k8W 0 hw) (fun _ hv => E_X10_placeOf_ok hn hL hw hv) h (fun v8 h => ?_)
          refine eCS (fun _ hv => E_X7_speaks_ok hn hL hw hv) h (fun v9 h => ?_)
          refine eJN (fun j15 fj15 => ∀ (u10 : Int32), j15 u10 = some x1 → fj15 u10 = some (Sum.map (fun (s1 : Int32 × Int32) => s1) (fun (e1 : Int32) => e1) x1)) h ?_ ?_
          · intro u10 h
            refine eJN (fun j12 fj12 => ∀ (u11 : Int32), j12 u11 = some x1 → fj12 u11 = some (Sum.map (fun (s1 : Int32 × Int32) => s1) (fun (e1 : Int32) => e1) x1)) h ?_ ?_
            · intro u11 h
              exact Jj6 _ h
            · intro j12 fj12 Jj12 h
              refine eIF h (fun c13 h => ?_) (fun c13 h => ?_)
              · exact Jj12 _ h
              · refine eCV (kW_0 hw) (k8W 0 hw) (fun _ hv => E_X10_standers_ok hn hL hw hv) h (fun v14 h => ?_)
                exact Jj12 _ h
          · intro j15 fj15 Jj15 h
            refine eIF h (fun c16 h => ?_) (fun c16 h => ?_)
            · exact Jj15 _ h
            · refine eCV (kW_0 hw) (k8W 0 hw) (fun _ hv => E_X10_hearers_ok hn hL hw hv) h (fun v17 h => ?_)
              exact Jj15 _ h
  · intro e1 h
    exact eLeaf (θ := (fun (o : Int32) => o)) h rfl
-- OnlyUpward$Spread.placesOf(LOnlyUpward$World;II)I
set_option maxRecDepth 100000 in
set_option maxHeartbeats 4000000 in
def E_X7_placesOf (n : Nat) (S : ST) (w : Nat) (a1 : Int32) (a2 : Int32) : Option Int32 :=
  (iter (fun (s1 : Int32 × Int32) => (rd (S.1 (w + 1)) 11 (1 : Int32)).bind fun v2 => if v2 ≤ s1.2 then some (.inr s1.1) else (E_X10_placeOf n S w s1.2 a2).bind fun v4 => (E_X11_hasBit n S a1 s1.2).bind fun v5 => jn (fun (u6 : Int32) => some (.inl (u6, (s1.2 + (1 : Int32))))) fun j7 => if v5 = 0 then j7 s1.1 else if v4 < 0 then j7 s1.1 else j7 (s1.1 ||| ((1 : Int32) <<< (v4 &&& 31)))) n ((0 : Int32), (0 : Int32))).bind fun (e1 : Int32) => some e1
set_option maxRecDepth 100000 in
set_option maxHeartbeats 4000000 in
theorem E_X7_placesOf_ok {n : Nat} (hn : 30000 ≤ n) {K : AK} {R : Nat → Nat → Option Nat} {S : ST} {w : Nat} {a1 : Int32} {a2 : Int32} {tz en : Nat} (hL : Lay K R tz en) (hw : LW K R w) {o : Int32} (h : E_X7_placesOf n S w a1 a2 = some o) : F_X7_placesOf n (mkM K R S) w a1 a2 = some o := by
  unfold E_X7_placesOf at h
  unfold F_X7_placesOf
  refine eLP (fun (s1 : Int32 × Int32) => s1) (fun (e1 : Int32) => e1) h rfl ?_ ?_
  · intro s1 x1 h
    refine eGR (kW_0 hw) (k8W 0 hw) (rW_0_0 hw) ?_
    refine eRI (kW_1 hw) h (fun v2 h => ?_)
    refine eIF h (fun c3 h => ?_) (fun c3 h => ?_)
    · exact eLeaf (θ := (Sum.map (fun (s1 : Int32 × Int32) => s1) (fun (e1 : Int32) => e1))) h rfl
    · refine eCV (kW_0 hw) (k8W 0 hw) (fun _ hv => E_X10_placeOf_ok hn hL hw hv) h (fun v4 h => ?_)
      refine eCS (fun _ hv => E_X11_hasBit_ok hn hL hv) h (fun v5 h => ?_)
      refine eJN (fun j7 fj7 => ∀ (u6 : Int32), j7 u6 = some x1 → fj7 u6 = some (Sum.map (fun (s1 : Int32 × Int32) => s1) (fun (e1 : Int32) => e1) x1)) h ?_ ?_
      · intro u6 h
        exact eLeaf (θ := (Sum.map (fun (s1 : Int32 × Int32) => s1) (fun (e1 : Int32) => e1))) h rfl
      · intro j7 fj7 Jj7 h
        refine eIF h (fun c8 h => ?_) (fun c8 h => ?_)
        · exact Jj7 _ h
        · refine eIF h (fun c9 h => ?_) (fun c9 h => ?_)
          · exact Jj7 _ h
          · exact Jj7 _ h
  · intro e1 h
    exact eLeaf (θ := (fun (o : Int32) => o)) h rfl
-- OnlyUpward$Spread.go(LOnlyUpward$World;IIIIZ)V
set_option maxRecDepth 100000 in
set_option maxHeartbeats 4000000 in
def E_X7_go (n : Nat) (S : ST) (w : Nat) (a2 : Int32) (a3 : Int32) (a4 : Int32) (a5 : Int32) (a6 : Int32) : Option ST :=
  lets (fillS S 89 10 (99 : Int32)) fun (S1 : ST) => jn (fun (u2 : Int32) => (iter (fun (s3 : Int32 × Int32 × Int32 × Int32 × ST) => if (24 : Int32) < s3.2.2.2.1 then some (.inr s3.2.2.2.2) else (E_X7_note n s3.2.2.2.2 (s3.2.1 &&& (s3.1 ^^^ (-1 : Int32))) s3.2.2.2.1).bind fun S6 => jn (fun (u7 : Int32) (u8 : Int32) => some (.inl ((s3.1 ||| s3.2.1), u7, u8, (s3.2.2.2.1 + (1 : Int32)), S6))) fun j9 => if (24 : Int32) ≤ s3.2.2.2.1 then j9 s3.2.1 s3.2.2.1 else (E_X10_standersWithin n S6 w s3.2.2.1 s3.2.2.2.1).bind fun v11 => (E_X7_toldOrShown n S6 w (s3.1 ||| s3.2.1) s3.2.2.2.1 a5 u2).bind fun v12 => jn (fun (u13 : Int32) => j9 (v11 ||| v12) (s3.2.2.1 ||| u13)) fun j14 => if a6 = 0 then (E_X7_placesOf n S6 w (s3.1 ||| s3.2.1) s3.2.2.2.1).bind fun v16 => j14 v16 else j14 (0 : Int32)) n ((0 : Int32), a3, (0 : Int32), a4, S1)).bind fun (e3 : ST) => some e3) fun j17 => jn (j17 (0 : Int32)) fun j18 => if a6 = 0 then (E_X7_isShown n S1 w a2).bind fun v20 => if v20 = 0 then j18 else j17 (1 : Int32) else j18
set_option maxRecDepth 100000 in
set_option maxHeartbeats 4000000 in
theorem E_X7_go_ok {n : Nat} (hn : 30000 ≤ n) {K : AK} {R : Nat → Nat → Option Nat} {S : ST} {w : Nat} {a2 : Int32} {a3 : Int32} {a4 : Int32} {a5 : Int32} {a6 : Int32} {tz en : Nat} (hL : Lay K R tz en) (hw : LW K R w) {o : ST} (h : E_X7_go n S w a2 a3 a4 a5 a6 = some o) : F_X7_go n (mkM K R S) 88 w a2 a3 a4 a5 a6 = some (mkM K R o) := by
  unfold E_X7_go at h
  unfold F_X7_go
  refine eGR (kd_88 hL) (Nat.le_of_ble_eq_true rfl) (rd_88_0 hL) ?_
  refine eFL (by omega) (kd_89 hL) (Nat.le_of_ble_eq_true rfl) h (fun S1 h => ?_)
  refine eJN (fun j17 fj17 => ∀ (u2 : Int32), j17 u2 = some o → fj17 u2 = some (mkM K R o)) h ?_ ?_
  · intro u2 h
    refine eLP (fun (s3 : Int32 × Int32 × Int32 × Int32 × ST) => (s3.1, s3.2.1, s3.2.2.1, s3.2.2.2.1, mkM K R s3.2.2.2.2)) (fun (e3 : ST) => mkM K R e3) h rfl ?_ ?_
    · intro s3 x3 h
      refine eIF h (fun c4 h => ?_) (fun c4 h => ?_)
      · exact eLeaf (θ := (Sum.map (fun (s3 : Int32 × Int32 × Int32 × Int32 × ST) => (s3.1, s3.2.1, s3.2.2.1, s3.2.2.2.1, mkM K R s3.2.2.2.2)) (fun (e3 : ST) => mkM K R e3))) h rfl
      · refine eCwV (kd_88 hL) (Nat.le_of_ble_eq_true rfl) (fun _ hv => E_X7_note_ok hn hL hv) h (fun S6 h => ?_)
        refine eJN (fun j9 fj9 => ∀ (u7 : Int32) (u8 : Int32), j9 u7 u8 = some x3 → fj9 u7 u8 = some (Sum.map (fun (s3 : Int32 × Int32 × Int32 × Int32 × ST) => (s3.1, s3.2.1, s3.2.2.1, s3.2.2.2.1, mkM K R s3.2.2.2.2)) (fun (e3 : ST) => mkM K R e3) x3)) h ?_ ?_
        · intro u7 u8 h
          exact eLeaf (θ := (Sum.map (fun (s3 : Int32 × Int32 × Int32 × Int32 × ST) => (s3.1, s3.2.1, s3.2.2.1, s3.2.2.2.1, mkM K R s3.2.2.2.2)) (fun (e3 : ST) => mkM K R e3))) h rfl
        · intro j9 fj9 Jj9 h
          refine eIF h (fun c10 h => ?_) (fun c10 h => ?_)
          · exact Jj9 _ _ h
          · refine eCV (kW_0 hw) (k8W 0 hw) (fun _ hv => E_X10_standersWithin_ok hn hL hw hv) h (fun v11 h => ?_)
            refine eCS (fun _ hv => E_X7_toldOrShown_ok hn hL hw hv) h (fun v12 h => ?_)
            refine eJN (fun j14 fj14 => ∀ (u13 : Int32), j14 u13 = some x3 → fj14 u13 = some (Sum.map (fun (s3 : Int32 × Int32 × Int32 × Int32 × ST) => (s3.1, s3.2.1, s3.2.2.1, s3.2.2.2.1, mkM K R s3.2.2.2.2)) (fun (e3 : ST) => mkM K R e3) x3)) h ?_ ?_
            · intro u13 h
              exact Jj9 _ _ h
            · intro j14 fj14 Jj14 h
              refine eIF h (fun c15 h => ?_) (fun c15 h => ?_)
              · refine eCS (fun _ hv => E_X7_placesOf_ok hn hL hw hv) h (fun v16 h => ?_)
                exact Jj14 _ h
              · exact Jj14 _ h
    · intro e3 h
      exact eLeaf (θ := (fun (o : ST) => (mkM K R o))) h rfl
  · intro j17 fj17 Jj17 h
    refine eJN (fun j18 fj18 => j18 = some o → fj18 = some (mkM K R o)) h ?_ ?_
    · intro h
      exact Jj17 _ h
    · intro j18 fj18 Jj18 h
      refine eIF h (fun c19 h => ?_) (fun c19 h => ?_)
      · refine eCS (fun _ hv => E_X7_isShown_ok hn hL hw hv) h (fun v20 h => ?_)
        refine eIF h (fun c21 h => ?_) (fun c21 h => ?_)
        · exact Jj18 h
        · exact Jj17 _ h
      · exact Jj18 h
-- OnlyUpward.soon(IIIIIZ)I
set_option maxRecDepth 100000 in
set_option maxHeartbeats 4000000 in
def E_X11_soon (n : Nat) (S : ST) (tw : Nat) (a1 : Int32) (a2 : Int32) (a3 : Int32) (a4 : Int32) (a5 : Int32) (a6 : Int32) : Option (Int32 × ST) :=
  (E_X11_isOne n S tw (1 : Int32) a1).bind fun v1 => if v1 = 0 then some ((-1 : Int32), S) else (E_X11_canSpread n S tw a2 a3 a4).bind fun v3 => if v3 = 0 then some ((-1 : Int32), S) else (E_X11_isLaw n S a5).bind fun v5 => if v5 = 0 then some ((-1 : Int32), S) else (E_X7_go n S tw a2 a3 a4 a5 a6).bind fun S8 => (rd (S8.1 89) 10 a1).bind fun v9 => (E_X11_orNever n S8 v9).bind fun v10 => some (v10, S8)
set_option maxRecDepth 100000 in
set_option maxHeartbeats 4000000 in
theorem E_X11_soon_ok {n : Nat} (hn : 30000 ≤ n) {K : AK} {R : Nat → Nat → Option Nat} {S : ST} {a1 : Int32} {a2 : Int32} {a3 : Int32} {a4 : Int32} {a5 : Int32} {a6 : Int32} {tw en : Nat} (hL : Lay K R tw en) {o : (Int32 × ST)} (h : E_X11_soon n S tw a1 a2 a3 a4 a5 a6 = some o) : F_X11_soon n (mkM K R S) 8 a1 a2 a3 a4 a5 a6 = some (o.1, mkM K R o.2) := by
  unfold E_X11_soon at h
  unfold F_X11_soon
  refine eCV (kd_8 hL) (Nat.le_of_ble_eq_true rfl) (fun _ hv => E_X11_isOne_ok hn hL hv) h (fun v1 h => ?_)
  refine eIF h (fun c2 h => ?_) (fun c2 h => ?_)
  · exact eLeaf (θ := (fun (o : (Int32 × ST)) => (o.1, mkM K R o.2))) h rfl
  · refine eCV (kd_8 hL) (Nat.le_of_ble_eq_true rfl) (fun _ hv => E_X11_canSpread_ok hn hL hv) h (fun v3 h => ?_)
    refine eIF h (fun c4 h => ?_) (fun c4 h => ?_)
    · exact eLeaf (θ := (fun (o : (Int32 × ST)) => (o.1, mkM K R o.2))) h rfl
    · refine eCS (fun _ hv => E_X11_isLaw_ok hn hL hv) h (fun v5 h => ?_)
      refine eIF h (fun c6 h => ?_) (fun c6 h => ?_)
      · exact eLeaf (θ := (fun (o : (Int32 × ST)) => (o.1, mkM K R o.2))) h rfl
      · refine eGR (kd_8 hL) (Nat.le_of_ble_eq_true rfl) (rd_8_12 hL) ?_
        refine eGR (kd_8 hL) (Nat.le_of_ble_eq_true rfl) (rd_told hL) ?_
        refine eCwV (kd_88 hL) (Nat.le_of_ble_eq_true rfl) (fun _ hv => E_X7_go_ok hn hL (layT hL) hv) h (fun S8 h => ?_)
        refine eGR (kd_8 hL) (Nat.le_of_ble_eq_true rfl) (rd_8_12 hL) ?_
        refine eGR (kd_88 hL) (Nat.le_of_ble_eq_true rfl) (rd_88_0 hL) ?_
        refine eRI (kd_89 hL) h (fun v9 h => ?_)
        refine eCS (fun _ hv => E_X11_orNever_ok hn hL hv) h (fun v10 h => ?_)
        exact eLeaf (θ := (fun (o : (Int32 × ST)) => (o.1, mkM K R o.2))) h rfl
-- OnlyUpward.all(IIIIZ)I
set_option maxRecDepth 100000 in
set_option maxHeartbeats 4000000 in
def E_X11_all (n : Nat) (S : ST) (tw : Nat) (a1 : Int32) (a2 : Int32) (a3 : Int32) (a4 : Int32) (a5 : Int32) : Option (Int32 × ST) :=
  (E_X11_canSpread n S tw a1 a2 a3).bind fun v1 => if v1 = 0 then some ((-1 : Int32), S) else (E_X11_isLaw n S a4).bind fun v3 => if v3 = 0 then some ((-1 : Int32), S) else (E_X7_go n S tw a1 a2 a3 a4 a5).bind fun S6 => (iter (fun (s7 : Int32 × Int32) => (rd (S6.1 (tw + 1)) 11 (1 : Int32)).bind fun v8 => if v8 ≤ s7.2 then some (.inr s7.1) else (rd (S6.1 89) 10 s7.2).bind fun v10 => some (.inl ((mxI s7.1 v10), (s7.2 + (1 : Int32))))) n (a3, (0 : Int32))).bind fun (e7 : Int32) => (E_X11_orNever n S6 e7).bind fun v11 => some (v11, S6)
set_option maxRecDepth 100000 in
set_option maxHeartbeats 4000000 in
theorem E_X11_all_ok {n : Nat} (hn : 30000 ≤ n) {K : AK} {R : Nat → Nat → Option Nat} {S : ST} {a1 : Int32} {a2 : Int32} {a3 : Int32} {a4 : Int32} {a5 : Int32} {tw en : Nat} (hL : Lay K R tw en) {o : (Int32 × ST)} (h : E_X11_all n S tw a1 a2 a3 a4 a5 = some o) : F_X11_all n (mkM K R S) 8 a1 a2 a3 a4 a5 = some (o.1, mkM K R o.2) := by
  unfold E_X11_all at h
  unfold F_X11_all
  refine eCV (kd_8 hL) (Nat.le_of_ble_eq_true rfl) (fun _ hv => E_X11_canSpread_ok hn hL hv) h (fun v1 h => ?_)
  refine eIF h (fun c2 h => ?_) (fun c2 h => ?_)
  · exact eLeaf (θ := (fun (o : (Int32 × ST)) => (o.1, mkM K R o.2))) h rfl
  · refine eCS (fun _ hv => E_X11_isLaw_ok hn hL hv) h (fun v3 h => ?_)
    refine eIF h (fun c4 h => ?_) (fun c4 h => ?_)
    · exact eLeaf (θ := (fun (o : (Int32 × ST)) => (o.1, mkM K R o.2))) h rfl
    · refine eGR (kd_8 hL) (Nat.le_of_ble_eq_true rfl) (rd_8_12 hL) ?_
      refine eGR (kd_8 hL) (Nat.le_of_ble_eq_true rfl) (rd_told hL) ?_
      refine eCwV (kd_88 hL) (Nat.le_of_ble_eq_true rfl) (fun _ hv => E_X7_go_ok hn hL (layT hL) hv) h (fun S6 h => ?_)
      refine eLP (fun (s7 : Int32 × Int32) => s7) (fun (e7 : Int32) => e7) h rfl ?_ ?_
      · intro s7 x7 h
        refine eGR (kd_8 hL) (Nat.le_of_ble_eq_true rfl) (rd_told hL) ?_
        refine eGR (kW_0 (layT hL)) (k8W 0 (layT hL)) (rW_0_0 (layT hL)) ?_
        refine eRI (kW_1 (layT hL)) h (fun v8 h => ?_)
        refine eIF h (fun c9 h => ?_) (fun c9 h => ?_)
        · exact eLeaf (θ := (Sum.map (fun (s7 : Int32 × Int32) => s7) (fun (e7 : Int32) => e7))) h rfl
        · refine eGR (kd_8 hL) (Nat.le_of_ble_eq_true rfl) (rd_8_12 hL) ?_
          refine eGR (kd_88 hL) (Nat.le_of_ble_eq_true rfl) (rd_88_0 hL) ?_
          refine eRI (kd_89 hL) h (fun v10 h => ?_)
          exact eLeaf (θ := (Sum.map (fun (s7 : Int32 × Int32) => s7) (fun (e7 : Int32) => e7))) h rfl
      · intro e7 h
        refine eCS (fun _ hv => E_X11_orNever_ok hn hL hv) h (fun v11 h => ?_)
        exact eLeaf (θ := (fun (o : (Int32 × ST)) => (o.1, mkM K R o.2))) h rfl
-- OnlyUpward.youngerHearers(II)I
set_option maxRecDepth 100000 in
set_option maxHeartbeats 4000000 in
def E_X11_youngerHearers (n : Nat) (S : ST) (tw : Nat) (a1 : Int32) (a2 : Int32) : Option Int32 :=
  (E_X10_placeOf n S tw a1 a2).bind fun v1 => (E_X10_hearers n S tw v1 a2).bind fun v2 => (iter (fun (s3 : Int32 × Int32) => (rd (S.1 (tw + 1)) 11 (1 : Int32)).bind fun v4 => if v4 ≤ s3.2 then some (.inr s3.1) else (E_X11_hasBit n S v2 s3.2).bind fun v6 => jn (fun (u7 : Int32) => some (.inl (u7, (s3.2 + (1 : Int32))))) fun j8 => if v6 = 0 then j8 s3.1 else (E_X10_ageAt n S tw s3.2 a2).bind fun v10 => (E_X10_ageAt n S tw a1 a2).bind fun v11 => if v11 ≤ v10 then j8 s3.1 else j8 (s3.1 ||| ((1 : Int32) <<< (s3.2 &&& 31)))) n ((0 : Int32), (0 : Int32))).bind fun (e3 : Int32) => some e3
set_option maxRecDepth 100000 in
set_option maxHeartbeats 4000000 in
theorem E_X11_youngerHearers_ok {n : Nat} (hn : 30000 ≤ n) {K : AK} {R : Nat → Nat → Option Nat} {S : ST} {a1 : Int32} {a2 : Int32} {tw en : Nat} (hL : Lay K R tw en) {o : Int32} (h : E_X11_youngerHearers n S tw a1 a2 = some o) : F_X11_youngerHearers n (mkM K R S) 8 a1 a2 = some o := by
  unfold E_X11_youngerHearers at h
  unfold F_X11_youngerHearers
  refine eGR (kd_8 hL) (Nat.le_of_ble_eq_true rfl) (rd_told hL) ?_
  refine eGR (kd_8 hL) (Nat.le_of_ble_eq_true rfl) (rd_told hL) ?_
  refine eCV (kW_0 (layT hL)) (k8W 0 (layT hL)) (fun _ hv => E_X10_placeOf_ok hn hL (layT hL) hv) h (fun v1 h => ?_)
  refine eCV (kW_0 (layT hL)) (k8W 0 (layT hL)) (fun _ hv => E_X10_hearers_ok hn hL (layT hL) hv) h (fun v2 h => ?_)
  refine eLP (fun (s3 : Int32 × Int32) => s3) (fun (e3 : Int32) => e3) h rfl ?_ ?_
  · intro s3 x3 h
    refine eGR (kd_8 hL) (Nat.le_of_ble_eq_true rfl) (rd_told hL) ?_
    refine eGR (kW_0 (layT hL)) (k8W 0 (layT hL)) (rW_0_0 (layT hL)) ?_
    refine eRI (kW_1 (layT hL)) h (fun v4 h => ?_)
    refine eIF h (fun c5 h => ?_) (fun c5 h => ?_)
    · exact eLeaf (θ := (Sum.map (fun (s3 : Int32 × Int32) => s3) (fun (e3 : Int32) => e3))) h rfl
    · refine eCS (fun _ hv => E_X11_hasBit_ok hn hL hv) h (fun v6 h => ?_)
      refine eJN (fun j8 fj8 => ∀ (u7 : Int32), j8 u7 = some x3 → fj8 u7 = some (Sum.map (fun (s3 : Int32 × Int32) => s3) (fun (e3 : Int32) => e3) x3)) h ?_ ?_
      · intro u7 h
        exact eLeaf (θ := (Sum.map (fun (s3 : Int32 × Int32) => s3) (fun (e3 : Int32) => e3))) h rfl
      · intro j8 fj8 Jj8 h
        refine eIF h (fun c9 h => ?_) (fun c9 h => ?_)
        · exact Jj8 _ h
        · refine eGR (kd_8 hL) (Nat.le_of_ble_eq_true rfl) (rd_told hL) ?_
          refine eCV (kW_0 (layT hL)) (k8W 0 (layT hL)) (fun _ hv => E_X10_ageAt_ok hn hL (layT hL) hv) h (fun v10 h => ?_)
          refine eGR (kd_8 hL) (Nat.le_of_ble_eq_true rfl) (rd_told hL) ?_
          refine eCV (kW_0 (layT hL)) (k8W 0 (layT hL)) (fun _ hv => E_X10_ageAt_ok hn hL (layT hL) hv) h (fun v11 h => ?_)
          refine eIF h (fun c12 h => ?_) (fun c12 h => ?_)
          · exact Jj8 _ h
          · exact Jj8 _ h
  · intro e3 h
    exact eLeaf (θ := (fun (o : Int32) => o)) h rfl
-- OnlyUpward.secret(II)I
set_option maxRecDepth 100000 in
set_option maxHeartbeats 4000000 in
def E_X11_secret (n : Nat) (S : ST) (tw : Nat) (a1 : Int32) (a2 : Int32) : Option Int32 :=
  (E_X11_isOne n S tw (1 : Int32) a1).bind fun v1 => if v1 = 0 then some (-1 : Int32) else (E_X11_isHour n S a2).bind fun v3 => if v3 = 0 then some (-1 : Int32) else (E_X10_sayTo n S tw a1 a2).bind fun v5 => if v5 = 0 then some (-2 : Int32) else (E_X11_youngerHearers n S tw a1 a2).bind fun v7 => if v7 = 0 then (E_J6_numberOfTrailingZeros_0f7a4 n S v5).bind fun v9 => some v9 else some (-2 : Int32)
set_option maxRecDepth 100000 in
set_option maxHeartbeats 4000000 in
theorem E_X11_secret_ok {n : Nat} (hn : 30000 ≤ n) {K : AK} {R : Nat → Nat → Option Nat} {S : ST} {a1 : Int32} {a2 : Int32} {tw en : Nat} (hL : Lay K R tw en) {o : Int32} (h : E_X11_secret n S tw a1 a2 = some o) : F_X11_secret n (mkM K R S) 8 a1 a2 = some o := by
  unfold E_X11_secret at h
  unfold F_X11_secret
  refine eCV (kd_8 hL) (Nat.le_of_ble_eq_true rfl) (fun _ hv => E_X11_isOne_ok hn hL hv) h (fun v1 h => ?_)
  refine eIF h (fun c2 h => ?_) (fun c2 h => ?_)
  · exact eLeaf (θ := (fun (o : Int32) => o)) h rfl
  · refine eCS (fun _ hv => E_X11_isHour_ok hn hL hv) h (fun v3 h => ?_)
    refine eIF h (fun c4 h => ?_) (fun c4 h => ?_)
    · exact eLeaf (θ := (fun (o : Int32) => o)) h rfl
    · refine eGR (kd_8 hL) (Nat.le_of_ble_eq_true rfl) (rd_told hL) ?_
      refine eCV (kW_0 (layT hL)) (k8W 0 (layT hL)) (fun _ hv => E_X10_sayTo_ok hn hL (layT hL) hv) h (fun v5 h => ?_)
      refine eIF h (fun c6 h => ?_) (fun c6 h => ?_)
      · exact eLeaf (θ := (fun (o : Int32) => o)) h rfl
      · refine eCV (kd_8 hL) (Nat.le_of_ble_eq_true rfl) (fun _ hv => E_X11_youngerHearers_ok hn hL hv) h (fun v7 h => ?_)
        refine eIF h (fun c8 h => ?_) (fun c8 h => ?_)
        · refine eCS (fun _ hv => E_J6_numberOfTrailingZeros_0f7a4_ok hn hL hv) h (fun v9 h => ?_)
          exact eLeaf (θ := (fun (o : Int32) => o)) h rfl
        · exact eLeaf (θ := (fun (o : Int32) => o)) h rfl
-- OnlyUpward.below(II)I
set_option maxRecDepth 100000 in
set_option maxHeartbeats 4000000 in
def E_X11_below (n : Nat) (S : ST) (tw : Nat) (a1 : Int32) (a2 : Int32) : Option Int32 :=
  (E_X11_isOne n S tw (1 : Int32) a1).bind fun v1 => if v1 = 0 then some (-1 : Int32) else (E_X11_isHour n S a2).bind fun v3 => if v3 = 0 then some (-1 : Int32) else (E_X11_youngerHearers n S tw a1 a2).bind fun v5 => some v5
set_option maxRecDepth 100000 in
set_option maxHeartbeats 4000000 in
theorem E_X11_below_ok {n : Nat} (hn : 30000 ≤ n) {K : AK} {R : Nat → Nat → Option Nat} {S : ST} {a1 : Int32} {a2 : Int32} {tw en : Nat} (hL : Lay K R tw en) {o : Int32} (h : E_X11_below n S tw a1 a2 = some o) : F_X11_below n (mkM K R S) 8 a1 a2 = some o := by
  unfold E_X11_below at h
  unfold F_X11_below
  refine eCV (kd_8 hL) (Nat.le_of_ble_eq_true rfl) (fun _ hv => E_X11_isOne_ok hn hL hv) h (fun v1 h => ?_)
  refine eIF h (fun c2 h => ?_) (fun c2 h => ?_)
  · exact eLeaf (θ := (fun (o : Int32) => o)) h rfl
  · refine eCS (fun _ hv => E_X11_isHour_ok hn hL hv) h (fun v3 h => ?_)
    refine eIF h (fun c4 h => ?_) (fun c4 h => ?_)
    · exact eLeaf (θ := (fun (o : Int32) => o)) h rfl
    · refine eCV (kd_8 hL) (Nat.le_of_ble_eq_true rfl) (fun _ hv => E_X11_youngerHearers_ok hn hL hv) h (fun v5 h => ?_)
      exact eLeaf (θ := (fun (o : Int32) => o)) h rfl
-- OnlyUpward.stand(III)I
set_option maxRecDepth 100000 in
set_option maxHeartbeats 4000000 in
def E_X11_stand (n : Nat) (S : ST) (tw : Nat) (a1 : Int32) (a2 : Int32) (a3 : Int32) : Option Int32 :=
  (E_X11_isOne n S tw (0 : Int32) a1).bind fun v1 => if v1 = 0 then some (-1 : Int32) else (E_X11_isHour n S a2).bind fun v3 => if v3 = 0 then some (-1 : Int32) else (E_X11_isSet n S tw a3).bind fun v5 => if v5 = 0 then some (-1 : Int32) else (E_X10_hearers n S tw a1 a2).bind fun v7 => some (a3 &&& (v7 ^^^ (-1 : Int32)))
set_option maxRecDepth 100000 in
set_option maxHeartbeats 4000000 in
theorem E_X11_stand_ok {n : Nat} (hn : 30000 ≤ n) {K : AK} {R : Nat → Nat → Option Nat} {S : ST} {a1 : Int32} {a2 : Int32} {a3 : Int32} {tw en : Nat} (hL : Lay K R tw en) {o : Int32} (h : E_X11_stand n S tw a1 a2 a3 = some o) : F_X11_stand n (mkM K R S) 8 a1 a2 a3 = some o := by
  unfold E_X11_stand at h
  unfold F_X11_stand
  refine eCV (kd_8 hL) (Nat.le_of_ble_eq_true rfl) (fun _ hv => E_X11_isOne_ok hn hL hv) h (fun v1 h => ?_)
  refine eIF h (fun c2 h => ?_) (fun c2 h => ?_)
  · exact eLeaf (θ := (fun (o : Int32) => o)) h rfl
  · refine eCS (fun _ hv => E_X11_isHour_ok hn hL hv) h (fun v3 h => ?_)
    refine eIF h (fun c4 h => ?_) (fun c4 h => ?_)
    · exact eLeaf (θ := (fun (o : Int32) => o)) h rfl
    · refine eCV (kd_8 hL) (Nat.le_of_ble_eq_true rfl) (fun _ hv => E_X11_isSet_ok hn hL hv) h (fun v5 h => ?_)
      refine eIF h (fun c6 h => ?_) (fun c6 h => ?_)
      · exact eLeaf (θ := (fun (o : Int32) => o)) h rfl
      · refine eGR (kd_8 hL) (Nat.le_of_ble_eq_true rfl) (rd_told hL) ?_
        refine eCV (kW_0 (layT hL)) (k8W 0 (layT hL)) (fun _ hv => E_X10_hearers_ok hn hL (layT hL) hv) h (fun v7 h => ?_)
        exact eLeaf (θ := (fun (o : Int32) => o)) h rfl
-- OnlyUpward.best(III)I
set_option maxRecDepth 100000 in
set_option maxHeartbeats 4000000 in
def E_X11_best (n : Nat) (S : ST) (tw : Nat) (a1 : Int32) (a2 : Int32) (a3 : Int32) : Option Int32 :=
  (E_X11_isOne n S tw (1 : Int32) a1).bind fun v1 => if v1 = 0 then some (-1 : Int32) else (E_X11_isHour n S a2).bind fun v3 => if v3 = 0 then some (-1 : Int32) else (E_X11_isSet n S tw a3).bind fun v5 => if v5 = 0 then some (-1 : Int32) else (iter (fun (s7 : Int32) => if (24 : Int32) ≤ s7 then some (.inr (.inl ())) else (E_X10_placeOf n S tw a1 s7).bind fun v9 => (E_X10_hearers n S tw v9 s7).bind fun v10 => jn (some (.inl (s7 + (1 : Int32)))) fun j11 => if (a3 &&& (v10 ^^^ (-1 : Int32))) = 0 then (E_X10_sayTo n S tw a1 s7).bind fun v13 => if v13 = 0 then j11 else some (.inr (.inr s7)) else j11) n a2).bind fun (z7 : (Unit) ⊕ Int32) => Sum.elim (fun (e7 : Unit) => some (-2 : Int32)) (fun (v : Int32) => some v) z7
set_option maxRecDepth 100000 in
set_option maxHeartbeats 4000000 in
theorem E_X11_best_ok {n : Nat} (hn : 30000 ≤ n) {K : AK} {R : Nat → Nat → Option Nat} {S : ST} {a1 : Int32} {a2 : Int32} {a3 : Int32} {tw en : Nat} (hL : Lay K R tw en) {o : Int32} (h : E_X11_best n S tw a1 a2 a3 = some o) : F_X11_best n (mkM K R S) 8 a1 a2 a3 = some o := by
  unfold E_X11_best at h
  unfold F_X11_best
  refine eCV (kd_8 hL) (Nat.le_of_ble_eq_true rfl) (fun _ hv => E_X11_isOne_ok hn hL hv) h (fun v1 h => ?_)
  refine eIF h (fun c2 h => ?_) (fun c2 h => ?_)
  · exact eLeaf (θ := (fun (o : Int32) => o)) h rfl
  · refine eCS (fun _ hv => E_X11_isHour_ok hn hL hv) h (fun v3 h => ?_)
    refine eIF h (fun c4 h => ?_) (fun c4 h => ?_)
    · exact eLeaf (θ := (fun (o : Int32) => o)) h rfl
    · refine eCV (kd_8 hL) (Nat.le_of_ble_eq_true rfl) (fun _ hv => E_X11_isSet_ok hn hL hv) h (fun v5 h => ?_)
      refine eIF h (fun c6 h => ?_) (fun c6 h => ?_)
      · exact eLeaf (θ := (fun (o : Int32) => o)) h rfl
      · refine eLP (fun (s7 : Int32) => s7) (Sum.map (fun (e7 : Unit) => e7) (fun (v : Int32) => v)) h rfl ?_ ?_
        · intro s7 x7 h
          refine eIF h (fun c8 h => ?_) (fun c8 h => ?_)
          · exact eLeaf (θ := (Sum.map (fun (s7 : Int32) => s7) (Sum.map (fun (e7 : Unit) => e7) (fun (v : Int32) => v)))) h rfl
          · refine eGR (kd_8 hL) (Nat.le_of_ble_eq_true rfl) (rd_told hL) ?_
            refine eGR (kd_8 hL) (Nat.le_of_ble_eq_true rfl) (rd_told hL) ?_
            refine eCV (kW_0 (layT hL)) (k8W 0 (layT hL)) (fun _ hv => E_X10_placeOf_ok hn hL (layT hL) hv) h (fun v9 h => ?_)
            refine eCV (kW_0 (layT hL)) (k8W 0 (layT hL)) (fun _ hv => E_X10_hearers_ok hn hL (layT hL) hv) h (fun v10 h => ?_)
            refine eJN (fun j11 fj11 => j11 = some x7 → fj11 = some (Sum.map (fun (s7 : Int32) => s7) (Sum.map (fun (e7 : Unit) => e7) (fun (v : Int32) => v)) x7)) h ?_ ?_
            · intro h
              exact eLeaf (θ := (Sum.map (fun (s7 : Int32) => s7) (Sum.map (fun (e7 : Unit) => e7) (fun (v : Int32) => v)))) h rfl
            · intro j11 fj11 Jj11 h
              refine eIF h (fun c12 h => ?_) (fun c12 h => ?_)
              · refine eGR (kd_8 hL) (Nat.le_of_ble_eq_true rfl) (rd_told hL) ?_
                refine eCV (kW_0 (layT hL)) (k8W 0 (layT hL)) (fun _ hv => E_X10_sayTo_ok hn hL (layT hL) hv) h (fun v13 h => ?_)
                refine eIF h (fun c14 h => ?_) (fun c14 h => ?_)
                · exact Jj11 h
                · exact eLeaf (θ := (Sum.map (fun (s7 : Int32) => s7) (Sum.map (fun (e7 : Unit) => e7) (fun (v : Int32) => v)))) h rfl
              · exact Jj11 h
        · intro z7 h
          rcases z7 with e7 | v
          · have h := sum_inl h
            exact eLeaf (θ := (fun (o : Int32) => o)) h rfl
          · have h := sum_inr h
            exact eLeaf (θ := (fun (o : Int32) => o)) h rfl
-- OnlyUpward.onlyWith(LOnlyUpward$Knowledge;II)I
set_option maxRecDepth 100000 in
set_option maxHeartbeats 4000000 in
def E_X11_onlyWith (n : Nat) (S : ST) (k : Nat) (tw : Nat) (a2 : Int32) (a3 : Int32) : Option Int32 :=
  (E_X3_thingsOf n S k a2 a3).bind fun v1 => (iter (fun (s2 : Int32 × Int32) => (rd (S.1 (tw + 1)) 11 (1 : Int32)).bind fun v3 => if v3 ≤ s2.2 then some (.inr s2.1) else jn (fun (u5 : Int32) => some (.inl (u5, (s2.2 + (1 : Int32))))) fun j6 => if s2.2 = a2 then j6 s2.1 else (E_X3_thingsOf n S k s2.2 a3).bind fun v8 => j6 (s2.1 &&& (v8 ^^^ (-1 : Int32)))) n (v1, (0 : Int32))).bind fun (e2 : Int32) => some e2
set_option maxRecDepth 100000 in
set_option maxHeartbeats 4000000 in
theorem E_X11_onlyWith_ok {n : Nat} (hn : 30000 ≤ n) {K : AK} {R : Nat → Nat → Option Nat} {S : ST} {k : Nat} {a2 : Int32} {a3 : Int32} {tw en : Nat} (hL : Lay K R tw en) (hk : LN K R k) {o : Int32} (h : E_X11_onlyWith n S k tw a2 a3 = some o) : F_X11_onlyWith n (mkM K R S) 8 k a2 a3 = some o := by
  unfold E_X11_onlyWith at h
  unfold F_X11_onlyWith
  refine eCV (kN_0 hk) (k8N 0 hk) (fun _ hv => E_X3_thingsOf_ok hn hL hk hv) h (fun v1 h => ?_)
  refine eLP (fun (s2 : Int32 × Int32) => s2) (fun (e2 : Int32) => e2) h rfl ?_ ?_
  · intro s2 x2 h
    refine eGR (kd_8 hL) (Nat.le_of_ble_eq_true rfl) (rd_told hL) ?_
    refine eGR (kW_0 (layT hL)) (k8W 0 (layT hL)) (rW_0_0 (layT hL)) ?_
    refine eRI (kW_1 (layT hL)) h (fun v3 h => ?_)
    refine eIF h (fun c4 h => ?_) (fun c4 h => ?_)
    · exact eLeaf (θ := (Sum.map (fun (s2 : Int32 × Int32) => s2) (fun (e2 : Int32) => e2))) h rfl
    · refine eJN (fun j6 fj6 => ∀ (u5 : Int32), j6 u5 = some x2 → fj6 u5 = some (Sum.map (fun (s2 : Int32 × Int32) => s2) (fun (e2 : Int32) => e2) x2)) h ?_ ?_
      · intro u5 h
        exact eLeaf (θ := (Sum.map (fun (s2 : Int32 × Int32) => s2) (fun (e2 : Int32) => e2))) h rfl
      · intro j6 fj6 Jj6 h
        refine eIF h (fun c7 h => ?_) (fun c7 h => ?_)
        · exact Jj6 _ h
        · refine eCV (kN_0 hk) (k8N 0 hk) (fun _ hv => E_X3_thingsOf_ok hn hL hk hv) h (fun v8 h => ?_)
          exact Jj6 _ h
  · intro e2 h
    exact eLeaf (θ := (fun (o : Int32) => o)) h rfl
-- OnlyUpward.lost(II)I
set_option maxRecDepth 100000 in
set_option maxHeartbeats 4000000 in
def E_X11_lost (n : Nat) (S : ST) (tw : Nat) (a1 : Int32) (a2 : Int32) : Option (Int32 × ST) :=
  (E_X11_isOne n S tw (1 : Int32) a1).bind fun v1 => if v1 = 0 then some ((-1 : Int32), S) else (E_X11_isHourOrEnd n S a2).bind fun v3 => if v3 = 0 then some ((-1 : Int32), S) else (E_X11_planCourse n S tw).bind fun S6 => (E_X11_onlyWith n S6 77 tw a1 a2).bind fun v7 => some (v7, S6)
set_option maxRecDepth 100000 in
set_option maxHeartbeats 4000000 in
theorem E_X11_lost_ok {n : Nat} (hn : 30000 ≤ n) {K : AK} {R : Nat → Nat → Option Nat} {S : ST} {a1 : Int32} {a2 : Int32} {tw en : Nat} (hL : Lay K R tw en) {o : (Int32 × ST)} (h : E_X11_lost n S tw a1 a2 = some o) : F_X11_lost n (mkM K R S) 8 a1 a2 = some (o.1, mkM K R o.2) := by
  unfold E_X11_lost at h
  unfold F_X11_lost
  refine eCV (kd_8 hL) (Nat.le_of_ble_eq_true rfl) (fun _ hv => E_X11_isOne_ok hn hL hv) h (fun v1 h => ?_)
  refine eIF h (fun c2 h => ?_) (fun c2 h => ?_)
  · exact eLeaf (θ := (fun (o : (Int32 × ST)) => (o.1, mkM K R o.2))) h rfl
  · refine eCS (fun _ hv => E_X11_isHourOrEnd_ok hn hL hv) h (fun v3 h => ?_)
    refine eIF h (fun c4 h => ?_) (fun c4 h => ?_)
    · exact eLeaf (θ := (fun (o : (Int32 × ST)) => (o.1, mkM K R o.2))) h rfl
    · refine eCwrV (kd_8 hL) (Nat.le_of_ble_eq_true rfl) (fun _ hv => E_X11_planCourse_ok hn hL hv) h (fun S6 h => ?_)
      refine eGR (kd_76 hL) (Nat.le_of_ble_eq_true rfl) (rd_76_0 hL) ?_
      refine eCV (kd_8 hL) (Nat.le_of_ble_eq_true rfl) (fun _ hv => E_X11_onlyWith_ok hn hL (layN_77 hL) hv) h (fun v7 h => ?_)
      exact eLeaf (θ := (fun (o : (Int32 × ST)) => (o.1, mkM K R o.2))) h rfl
-- OnlyUpward.before(II)I
set_option maxRecDepth 100000 in
set_option maxHeartbeats 4000000 in
def E_X11_before (n : Nat) (S : ST) (tw : Nat) (a1 : Int32) (a2 : Int32) : Option (Int32 × ST) :=
  (E_X11_isOne n S tw (1 : Int32) a1).bind fun v1 => if v1 = 0 then some ((-1 : Int32), S) else (E_X11_isHourOrEnd n S a2).bind fun v3 => if v3 = 0 then some ((-1 : Int32), S) else (E_X11_planCourse n S tw).bind fun S6 => (E_X11_onlyWith n S6 77 tw a1 a2).bind fun v7 => (iter (fun (s8 : Int32 × Int32) => (rd (S6.1 (tw + 1)) 11 (2 : Int32)).bind fun v9 => if v9 ≤ s8.2 then some (.inr s8.1) else jn (fun (u11 : Int32) => (E_X11_hasBit n S6 v7 s8.2).bind fun v12 => jn (fun (u13 : Int32) => some (.inl (u13, (s8.2 + (1 : Int32))))) fun j14 => if v12 = 0 then j14 s8.1 else if u11 = 0 then j14 s8.1 else j14 s8.2) fun j17 => jn (j17 (1 : Int32)) fun j18 => if s8.1 = (-2 : Int32) then j18 else (rd (S6.1 (tw + 4)) 6 s8.2).bind fun v20 => (rd (S6.1 (tw + 4)) 6 s8.1).bind fun v21 => if v20 ≤ v21 then j17 (0 : Int32) else j18) n ((-2 : Int32), (0 : Int32))).bind fun (e8 : Int32) => some (e8, S6)
set_option maxRecDepth 100000 in
set_option maxHeartbeats 4000000 in
theorem E_X11_before_ok {n : Nat} (hn : 30000 ≤ n) {K : AK} {R : Nat → Nat → Option Nat} {S : ST} {a1 : Int32} {a2 : Int32} {tw en : Nat} (hL : Lay K R tw en) {o : (Int32 × ST)} (h : E_X11_before n S tw a1 a2 = some o) : F_X11_before n (mkM K R S) 8 a1 a2 = some (o.1, mkM K R o.2) := by
  unfold E_X11_before at h
  unfold F_X11_before
  refine eCV (kd_8 hL) (Nat.le_of_ble_eq_true rfl) (fun _ hv => E_X11_isOne_ok hn hL hv) h (fun v1 h => ?_)
  refine eIF h (fun c2 h => ?_) (fun c2 h => ?_)
  · exact eLeaf (θ := (fun (o : (Int32 × ST)) => (o.1, mkM K R o.2))) h rfl
  · refine eCS (fun _ hv => E_X11_isHourOrEnd_ok hn hL hv) h (fun v3 h => ?_)
    refine eIF h (fun c4 h => ?_) (fun c4 h => ?_)
    · exact eLeaf (θ := (fun (o : (Int32 × ST)) => (o.1, mkM K R o.2))) h rfl
    · refine eCwrV (kd_8 hL) (Nat.le_of_ble_eq_true rfl) (fun _ hv => E_X11_planCourse_ok hn hL hv) h (fun S6 h => ?_)
      refine eGR (kd_76 hL) (Nat.le_of_ble_eq_true rfl) (rd_76_0 hL) ?_
      refine eCV (kd_8 hL) (Nat.le_of_ble_eq_true rfl) (fun _ hv => E_X11_onlyWith_ok hn hL (layN_77 hL) hv) h (fun v7 h => ?_)
      refine eLP (fun (s8 : Int32 × Int32) => s8) (fun (e8 : Int32) => e8) h rfl ?_ ?_
      · intro s8 x8 h
        refine eGR (kd_8 hL) (Nat.le_of_ble_eq_true rfl) (rd_told hL) ?_
        refine eGR (kW_0 (layT hL)) (k8W 0 (layT hL)) (rW_0_0 (layT hL)) ?_
        refine eRI (kW_1 (layT hL)) h (fun v9 h => ?_)
        refine eIF h (fun c10 h => ?_) (fun c10 h => ?_)
        · exact eLeaf (θ := (Sum.map (fun (s8 : Int32 × Int32) => s8) (fun (e8 : Int32) => e8))) h rfl
        · refine eJN (fun j17 fj17 => ∀ (u11 : Int32), j17 u11 = some x8 → fj17 u11 = some (Sum.map (fun (s8 : Int32 × Int32) => s8) (fun (e8 : Int32) => e8) x8)) h ?_ ?_
          · intro u11 h
            refine eCS (fun _ hv => E_X11_hasBit_ok hn hL hv) h (fun v12 h => ?_)
            refine eJN (fun j14 fj14 => ∀ (u13 : Int32), j14 u13 = some x8 → fj14 u13 = some (Sum.map (fun (s8 : Int32 × Int32) => s8) (fun (e8 : Int32) => e8) x8)) h ?_ ?_
            · intro u13 h
              exact eLeaf (θ := (Sum.map (fun (s8 : Int32 × Int32) => s8) (fun (e8 : Int32) => e8))) h rfl
            · intro j14 fj14 Jj14 h
              refine eIF h (fun c15 h => ?_) (fun c15 h => ?_)
              · exact Jj14 _ h
              · refine eIF h (fun c16 h => ?_) (fun c16 h => ?_)
                · exact Jj14 _ h
                · exact Jj14 _ h
          · intro j17 fj17 Jj17 h
            refine eJN (fun j18 fj18 => j18 = some x8 → fj18 = some (Sum.map (fun (s8 : Int32 × Int32) => s8) (fun (e8 : Int32) => e8) x8)) h ?_ ?_
            · intro h
              exact Jj17 _ h
            · intro j18 fj18 Jj18 h
              refine eIF h (fun c19 h => ?_) (fun c19 h => ?_)
              · exact Jj18 h
              · refine eGR (kd_8 hL) (Nat.le_of_ble_eq_true rfl) (rd_told hL) ?_
                refine eGR (kW_0 (layT hL)) (k8W 0 (layT hL)) (rW_0_3 (layT hL)) ?_
                refine eRI (kW_4 (layT hL)) h (fun v20 h => ?_)
                refine eGR (kd_8 hL) (Nat.le_of_ble_eq_true rfl) (rd_told hL) ?_
                refine eGR (kW_0 (layT hL)) (k8W 0 (layT hL)) (rW_0_3 (layT hL)) ?_
                refine eRI (kW_4 (layT hL)) h (fun v21 h => ?_)
                refine eIF h (fun c22 h => ?_) (fun c22 h => ?_)
                · exact Jj17 _ h
                · exact Jj18 h
      · intro e8 h
        exact eLeaf (θ := (fun (o : (Int32 × ST)) => (o.1, mkM K R o.2))) h rfl
-- OnlyUpward$Knowledge.misses(LOnlyUpward$World;I)Z
set_option maxRecDepth 100000 in
set_option maxHeartbeats 4000000 in
def E_X3_misses (n : Nat) (S : ST) (k : Nat) (w : Nat) (a2 : Int32) : Option Int32 :=
  (rd (S.1 (w + 7)) 12 a2).bind fun v1 => (rd (S.1 (w + 8)) 12 a2).bind fun v2 => (rd (S.1 (w + 9)) 12 a2).bind fun v3 => (E_X3_has n S k v1 v2 v3).bind fun v4 => if v4 = 0 then some (1 : Int32) else some (0 : Int32)
set_option maxRecDepth 100000 in
set_option maxHeartbeats 4000000 in
theorem E_X3_misses_ok {n : Nat} (hn : 30000 ≤ n) {K : AK} {R : Nat → Nat → Option Nat} {S : ST} {k : Nat} {w : Nat} {a2 : Int32} {tz en : Nat} (hL : Lay K R tz en) (hk : LN K R k) (hw : LW K R w) {o : Int32} (h : E_X3_misses n S k w a2 = some o) : F_X3_misses n (mkM K R S) k w a2 = some o := by
  unfold E_X3_misses at h
  unfold F_X3_misses
  refine eGR (kW_0 hw) (k8W 0 hw) (rW_0_6 hw) ?_
  refine eRI (kW_7 hw) h (fun v1 h => ?_)
  refine eGR (kW_0 hw) (k8W 0 hw) (rW_0_7 hw) ?_
  refine eRI (kW_8 hw) h (fun v2 h => ?_)
  refine eGR (kW_0 hw) (k8W 0 hw) (rW_0_8 hw) ?_
  refine eRI (kW_9 hw) h (fun v3 h => ?_)
  refine eCV (kN_0 hk) (k8N 0 hk) (fun _ hv => E_X3_has_ok hn hL hk hv) h (fun v4 h => ?_)
  refine eIF h (fun c5 h => ?_) (fun c5 h => ?_)
  · exact eLeaf (θ := (fun (o : Int32) => o)) h rfl
  · exact eLeaf (θ := (fun (o : Int32) => o)) h rfl
-- OnlyUpward.missed(I)I
set_option maxRecDepth 100000 in
set_option maxHeartbeats 4000000 in
def E_X11_missed (n : Nat) (S : ST) (tw : Nat) (a1 : Int32) : Option (Int32 × ST) :=
  (E_X11_planCourse n S tw).bind fun S2 => (iter (fun (s3 : Int32 × Int32) => (rd (S2.1 (tw + 1)) 11 (6 : Int32)).bind fun v4 => if v4 ≤ s3.2 then some (.inr (.inl s3.1)) else (E_X3_misses n S2 77 tw s3.2).bind fun v6 => jn (fun (u7 : Int32) => some (.inl (u7, (s3.2 + (1 : Int32))))) fun j8 => if v6 = 0 then j8 s3.1 else if s3.1 = a1 then some (.inr (.inr (s3.2, S2))) else j8 (s3.1 + (1 : Int32))) n ((0 : Int32), (0 : Int32))).bind fun (z3 : (Int32) ⊕ (Int32 × ST)) => Sum.elim (fun (e3 : Int32) => if a1 = (-1 : Int32) then some (e3, S2) else some ((-1 : Int32), S2)) (fun (v : (Int32 × ST)) => some v) z3
set_option maxRecDepth 100000 in
set_option maxHeartbeats 4000000 in
theorem E_X11_missed_ok {n : Nat} (hn : 30000 ≤ n) {K : AK} {R : Nat → Nat → Option Nat} {S : ST} {a1 : Int32} {tw en : Nat} (hL : Lay K R tw en) {o : (Int32 × ST)} (h : E_X11_missed n S tw a1 = some o) : F_X11_missed n (mkM K R S) 8 a1 = some (o.1, mkM K R o.2) := by
  unfold E_X11_missed at h
  unfold F_X11_missed
  refine eCwrV (kd_8 hL) (Nat.le_of_ble_eq_true rfl) (fun _ hv => E_X11_planCourse_ok hn hL hv) h (fun S2 h => ?_)
  refine eGR (kd_76 hL) (Nat.le_of_ble_eq_true rfl) (rd_76_0 hL) ?_
  refine eLP (fun (s3 : Int32 × Int32) => s3) (Sum.map (fun (e3 : Int32) => e3) (fun (v : (Int32 × ST)) => (v.1, mkM K R v.2))) h rfl ?_ ?_
  · intro s3 x3 h
    refine eGR (kd_8 hL) (Nat.le_of_ble_eq_true rfl) (rd_told hL) ?_
    refine eGR (kW_0 (layT hL)) (k8W 0 (layT hL)) (rW_0_0 (layT hL)) ?_
    refine eRI (kW_1 (layT hL)) h (fun v4 h => ?_)
    refine eIF h (fun c5 h => ?_) (fun c5 h => ?_)
    · exact eLeaf (θ := (Sum.map (fun (s3 : Int32 × Int32) => s3) (Sum.map (fun (e3 : Int32) => e3) (fun (v : (Int32 × ST)) => (v.1, mkM K R v.2))))) h rfl
    · refine eGR (kd_8 hL) (Nat.le_of_ble_eq_true rfl) (rd_told hL) ?_
      refine eCV (kd_77 hL) (Nat.le_of_ble_eq_true rfl) (fun _ hv => E_X3_misses_ok hn hL (layN_77 hL) (layT hL) hv) h (fun v6 h => ?_)
      refine eJN (fun j8 fj8 => ∀ (u7 : Int32), j8 u7 = some x3 → fj8 u7 = some (Sum.map (fun (s3 : Int32 × Int32) => s3) (Sum.map (fun (e3 : Int32) => e3) (fun (v : (Int32 × ST)) => (v.1, mkM K R v.2))) x3)) h ?_ ?_
      · intro u7 h
        exact eLeaf (θ := (Sum.map (fun (s3 : Int32 × Int32) => s3) (Sum.map (fun (e3 : Int32) => e3) (fun (v : (Int32 × ST)) => (v.1, mkM K R v.2))))) h rfl
      · intro j8 fj8 Jj8 h
        refine eIF h (fun c9 h => ?_) (fun c9 h => ?_)
        · exact Jj8 _ h
        · refine eIF h (fun c10 h => ?_) (fun c10 h => ?_)
          · exact eLeaf (θ := (Sum.map (fun (s3 : Int32 × Int32) => s3) (Sum.map (fun (e3 : Int32) => e3) (fun (v : (Int32 × ST)) => (v.1, mkM K R v.2))))) h rfl
          · exact Jj8 _ h
  · intro z3 h
    rcases z3 with e3 | v
    · have h := sum_inl h
      refine eIF h (fun c11 h => ?_) (fun c11 h => ?_)
      · exact eLeaf (θ := (fun (o : (Int32 × ST)) => (o.1, mkM K R o.2))) h rfl
      · exact eLeaf (θ := (fun (o : (Int32 × ST)) => (o.1, mkM K R o.2))) h rfl
    · have h := sum_inr h
      exact eLeaf (θ := (fun (o : (Int32 × ST)) => (o.1, mkM K R o.2))) h rfl
-- OnlyUpward$Knowledge.worthMissed(LOnlyUpward$World;)I
set_option maxRecDepth 100000 in
set_option maxHeartbeats 4000000 in
def E_X3_worthMissed (n : Nat) (S : ST) (k : Nat) (w : Nat) : Option Int32 :=
  (iter (fun (s1 : Int32 × Int32) => (rd (S.1 (w + 1)) 11 (6 : Int32)).bind fun v2 => if v2 ≤ s1.2 then some (.inr s1.1) else (E_X3_misses n S k w s1.2).bind fun v4 => jn (fun (u5 : Int32) => some (.inl (u5, (s1.2 + (1 : Int32))))) fun j6 => if v4 = 0 then j6 s1.1 else (rd (S.1 (w + 8)) 12 s1.2).bind fun v8 => (rd (S.1 (w + 4)) 6 v8).bind fun v9 => j6 (s1.1 + v9)) n ((0 : Int32), (0 : Int32))).bind fun (e1 : Int32) => some e1
set_option maxRecDepth 100000 in
set_option maxHeartbeats 4000000 in
theorem E_X3_worthMissed_ok {n : Nat} (hn : 30000 ≤ n) {K : AK} {R : Nat → Nat → Option Nat} {S : ST} {k : Nat} {w : Nat} {tz en : Nat} (hL : Lay K R tz en) (hk : LN K R k) (hw : LW K R w) {o : Int32} (h : E_X3_worthMissed n S k w = some o) : F_X3_worthMissed n (mkM K R S) k w = some o := by
  unfold E_X3_worthMissed at h
  unfold F_X3_worthMissed
  refine eLP (fun (s1 : Int32 × Int32) => s1) (fun (e1 : Int32) => e1) h rfl ?_ ?_
  · intro s1 x1 h
    refine eGR (kW_0 hw) (k8W 0 hw) (rW_0_0 hw) ?_
    refine eRI (kW_1 hw) h (fun v2 h => ?_)
    refine eIF h (fun c3 h => ?_) (fun c3 h => ?_)
    · exact eLeaf (θ := (Sum.map (fun (s1 : Int32 × Int32) => s1) (fun (e1 : Int32) => e1))) h rfl
    · refine eCV (kN_0 hk) (k8N 0 hk) (fun _ hv => E_X3_misses_ok hn hL hk hw hv) h (fun v4 h => ?_)
      refine eJN (fun j6 fj6 => ∀ (u5 : Int32), j6 u5 = some x1 → fj6 u5 = some (Sum.map (fun (s1 : Int32 × Int32) => s1) (fun (e1 : Int32) => e1) x1)) h ?_ ?_
      · intro u5 h
        exact eLeaf (θ := (Sum.map (fun (s1 : Int32 × Int32) => s1) (fun (e1 : Int32) => e1))) h rfl
      · intro j6 fj6 Jj6 h
        refine eIF h (fun c7 h => ?_) (fun c7 h => ?_)
        · exact Jj6 _ h
        · refine eGR (kW_0 hw) (k8W 0 hw) (rW_0_3 hw) ?_
          refine eGR (kW_0 hw) (k8W 0 hw) (rW_0_7 hw) ?_
          refine eRI (kW_8 hw) h (fun v8 h => ?_)
          refine eRI (kW_4 hw) h (fun v9 h => ?_)
          exact Jj6 _ h
  · intro e1 h
    exact eLeaf (θ := (fun (o : Int32) => o)) h rfl
-- OnlyUpward.harm()I
set_option maxRecDepth 100000 in
set_option maxHeartbeats 4000000 in
def E_X11_harm (n : Nat) (S : ST) (tw : Nat) : Option (Int32 × ST) :=
  (E_X11_planCourse n S tw).bind fun S2 => (E_X3_worthMissed n S2 77 tw).bind fun v3 => some (v3, S2)
set_option maxRecDepth 100000 in
set_option maxHeartbeats 4000000 in
theorem E_X11_harm_ok {n : Nat} (hn : 30000 ≤ n) {K : AK} {R : Nat → Nat → Option Nat} {S : ST} {tw en : Nat} (hL : Lay K R tw en) {o : (Int32 × ST)} (h : E_X11_harm n S tw = some o) : F_X11_harm n (mkM K R S) 8 = some (o.1, mkM K R o.2) := by
  unfold E_X11_harm at h
  unfold F_X11_harm
  refine eCwrV (kd_8 hL) (Nat.le_of_ble_eq_true rfl) (fun _ hv => E_X11_planCourse_ok hn hL hv) h (fun S2 h => ?_)
  refine eGR (kd_76 hL) (Nat.le_of_ble_eq_true rfl) (rd_76_0 hL) ?_
  refine eGR (kd_8 hL) (Nat.le_of_ble_eq_true rfl) (rd_told hL) ?_
  refine eCV (kd_77 hL) (Nat.le_of_ble_eq_true rfl) (fun _ hv => E_X3_worthMissed_ok hn hL (layN_77 hL) (layT hL) hv) h (fun v3 h => ?_)
  exact eLeaf (θ := (fun (o : (Int32 × ST)) => (o.1, mkM K R o.2))) h rfl
-- OnlyUpward$World.knowersAtFirst(I)I
set_option maxRecDepth 100000 in
set_option maxHeartbeats 4000000 in
def E_X10_knowersAtFirst (n : Nat) (S : ST) (w : Nat) (a1 : Int32) : Option Int32 :=
  (iter (fun (s1 : Int32 × Int32) => (rd (S.1 (w + 1)) 11 (1 : Int32)).bind fun v2 => if v2 ≤ s1.2 then some (.inr s1.1) else (rd (S.1 (w + 6)) 10 s1.2).bind fun v4 => lets (s1.1 ||| (((ush v4 a1) &&& (1 : Int32)) <<< (s1.2 &&& 31))) fun (w5 : Int32) => some (.inl (w5, (s1.2 + (1 : Int32))))) n ((0 : Int32), (0 : Int32))).bind fun (e1 : Int32) => some e1
set_option maxRecDepth 100000 in
set_option maxHeartbeats 4000000 in
theorem E_X10_knowersAtFirst_ok {n : Nat} (hn : 30000 ≤ n) {K : AK} {R : Nat → Nat → Option Nat} {S : ST} {w : Nat} {a1 : Int32} {tz en : Nat} (hL : Lay K R tz en) (hw : LW K R w) {o : Int32} (h : E_X10_knowersAtFirst n S w a1 = some o) : F_X10_knowersAtFirst n (mkM K R S) w a1 = some o := by
  unfold E_X10_knowersAtFirst at h
  unfold F_X10_knowersAtFirst
  refine eLP (fun (s1 : Int32 × Int32) => s1) (fun (e1 : Int32) => e1) h rfl ?_ ?_
  · intro s1 x1 h
    refine eGR (kW_0 hw) (k8W 0 hw) (rW_0_0 hw) ?_
    refine eRI (kW_1 hw) h (fun v2 h => ?_)
    refine eIF h (fun c3 h => ?_) (fun c3 h => ?_)
    · exact eLeaf (θ := (Sum.map (fun (s1 : Int32 × Int32) => s1) (fun (e1 : Int32) => e1))) h rfl
    · refine eGR (kW_0 hw) (k8W 0 hw) (rW_0_5 hw) ?_
      refine eRI (kW_6 hw) h (fun v4 h => ?_)
      refine eLT h (fun w5 h => ?_)
      exact eLeaf (θ := (Sum.map (fun (s1 : Int32 × Int32) => s1) (fun (e1 : Int32) => e1))) h rfl
  · intro e1 h
    exact eLeaf (θ := (fun (o : Int32) => o)) h rfl
-- OnlyUpward.soonFromFirst(II)I
set_option maxRecDepth 100000 in
set_option maxHeartbeats 4000000 in
def E_X11_soonFromFirst (n : Nat) (S : ST) (tw : Nat) (a1 : Int32) (a2 : Int32) : Option (Int32 × ST) :=
  (E_X10_knowersAtFirst n S tw a2).bind fun v1 => (E_X7_go n S tw a2 v1 (0 : Int32) (0 : Int32) (0 : Int32)).bind fun S3 => (rd (S3.1 89) 10 a1).bind fun v4 => some (v4, S3)
set_option maxRecDepth 100000 in
set_option maxHeartbeats 4000000 in
theorem E_X11_soonFromFirst_ok {n : Nat} (hn : 30000 ≤ n) {K : AK} {R : Nat → Nat → Option Nat} {S : ST} {a1 : Int32} {a2 : Int32} {tw en : Nat} (hL : Lay K R tw en) {o : (Int32 × ST)} (h : E_X11_soonFromFirst n S tw a1 a2 = some o) : F_X11_soonFromFirst n (mkM K R S) 8 a1 a2 = some (o.1, mkM K R o.2) := by
  unfold E_X11_soonFromFirst at h
  unfold F_X11_soonFromFirst
  refine eGR (kd_8 hL) (Nat.le_of_ble_eq_true rfl) (rd_8_12 hL) ?_
  refine eGR (kd_8 hL) (Nat.le_of_ble_eq_true rfl) (rd_told hL) ?_
  refine eGR (kd_8 hL) (Nat.le_of_ble_eq_true rfl) (rd_told hL) ?_
  refine eCV (kW_0 (layT hL)) (k8W 0 (layT hL)) (fun _ hv => E_X10_knowersAtFirst_ok hn hL (layT hL) hv) h (fun v1 h => ?_)
  refine eCwV (kd_88 hL) (Nat.le_of_ble_eq_true rfl) (fun _ hv => E_X7_go_ok hn hL (layT hL) hv) h (fun S3 h => ?_)
  refine eGR (kd_8 hL) (Nat.le_of_ble_eq_true rfl) (rd_8_12 hL) ?_
  refine eGR (kd_88 hL) (Nat.le_of_ble_eq_true rfl) (rd_88_0 hL) ?_
  refine eRI (kd_89 hL) h (fun v4 h => ?_)
  exact eLeaf (θ := (fun (o : (Int32 × ST)) => (o.1, mkM K R o.2))) h rfl
-- OnlyUpward.can(I)I
set_option maxRecDepth 100000 in
set_option maxHeartbeats 4000000 in
def E_X11_can (n : Nat) (S : ST) (tw : Nat) (a1 : Int32) : Option (Int32 × ST) :=
  if a1 < 0 then some ((-1 : Int32), S) else if a1 ≤ (1 : Int32) then (iter (fun (s3 : Int32 × Int32 × Int32 × ST) => (rd (s3.2.2.2.1 (tw + 1)) 11 (6 : Int32)).bind fun v4 => if v4 ≤ s3.2.2.1 then some (.inr (s3.1, s3.2.1, s3.2.2.2)) else (rd (s3.2.2.2.1 (tw + 8)) 12 s3.2.2.1).bind fun v6 => (rd (s3.2.2.2.1 (tw + 7)) 12 s3.2.2.1).bind fun v7 => (E_X11_soonFromFirst n s3.2.2.2 tw v7 v6).bind fun v8 => (rd (v8.2.1 (tw + 9)) 12 s3.2.2.1).bind fun v9 => jn (fun (u10 : Int32) (u11 : Int32) => some (.inl (u10, u11, (s3.2.2.1 + (1 : Int32)), v8.2))) fun j12 => if v9 < v8.1 then (rd (v8.2.1 (tw + 4)) 6 v6).bind fun v14 => j12 s3.1 (s3.2.1 + v14) else j12 (s3.1 + (1 : Int32)) s3.2.1) n ((0 : Int32), (0 : Int32), (0 : Int32), S)).bind fun (e3 : Int32 × Int32 × ST) => if a1 = 0 then some (e3.1, e3.2.2) else some (e3.2.1, e3.2.2) else some ((-1 : Int32), S)
set_option maxRecDepth 100000 in
set_option maxHeartbeats 4000000 in
theorem E_X11_can_ok {n : Nat} (hn : 30000 ≤ n) {K : AK} {R : Nat → Nat → Option Nat} {S : ST} {a1 : Int32} {tw en : Nat} (hL : Lay K R tw en) {o : (Int32 × ST)} (h : E_X11_can n S tw a1 = some o) : F_X11_can n (mkM K R S) 8 a1 = some (o.1, mkM K R o.2) := by
  unfold E_X11_can at h
  unfold F_X11_can
  refine eIF h (fun c1 h => ?_) (fun c1 h => ?_)
  · exact eLeaf (θ := (fun (o : (Int32 × ST)) => (o.1, mkM K R o.2))) h rfl
  · refine eIF h (fun c2 h => ?_) (fun c2 h => ?_)
    · refine eLP (fun (s3 : Int32 × Int32 × Int32 × ST) => (s3.1, s3.2.1, s3.2.2.1, mkM K R s3.2.2.2)) (fun (e3 : Int32 × Int32 × ST) => (e3.1, e3.2.1, mkM K R e3.2.2)) h rfl ?_ ?_
      · intro s3 x3 h
        refine eGR (kd_8 hL) (Nat.le_of_ble_eq_true rfl) (rd_told hL) ?_
        refine eGR (kW_0 (layT hL)) (k8W 0 (layT hL)) (rW_0_0 (layT hL)) ?_
        refine eRI (kW_1 (layT hL)) h (fun v4 h => ?_)
        refine eIF h (fun c5 h => ?_) (fun c5 h => ?_)
        · exact eLeaf (θ := (Sum.map (fun (s3 : Int32 × Int32 × Int32 × ST) => (s3.1, s3.2.1, s3.2.2.1, mkM K R s3.2.2.2)) (fun (e3 : Int32 × Int32 × ST) => (e3.1, e3.2.1, mkM K R e3.2.2)))) h rfl
        · refine eGR (kd_8 hL) (Nat.le_of_ble_eq_true rfl) (rd_told hL) ?_
          refine eGR (kW_0 (layT hL)) (k8W 0 (layT hL)) (rW_0_7 (layT hL)) ?_
          refine eRI (kW_8 (layT hL)) h (fun v6 h => ?_)
          refine eGR (kd_8 hL) (Nat.le_of_ble_eq_true rfl) (rd_told hL) ?_
          refine eGR (kW_0 (layT hL)) (k8W 0 (layT hL)) (rW_0_6 (layT hL)) ?_
          refine eRI (kW_7 (layT hL)) h (fun v7 h => ?_)
          refine eCwiV (kd_8 hL) (Nat.le_of_ble_eq_true rfl) (fun _ hv => E_X11_soonFromFirst_ok hn hL hv) h (fun v8 h => ?_)
          refine eGR (kd_8 hL) (Nat.le_of_ble_eq_true rfl) (rd_told hL) ?_
          refine eGR (kW_0 (layT hL)) (k8W 0 (layT hL)) (rW_0_8 (layT hL)) ?_
          refine eRI (kW_9 (layT hL)) h (fun v9 h => ?_)
          refine eJN (fun j12 fj12 => ∀ (u10 : Int32) (u11 : Int32), j12 u10 u11 = some x3 → fj12 u10 u11 = some (Sum.map (fun (s3 : Int32 × Int32 × Int32 × ST) => (s3.1, s3.2.1, s3.2.2.1, mkM K R s3.2.2.2)) (fun (e3 : Int32 × Int32 × ST) => (e3.1, e3.2.1, mkM K R e3.2.2)) x3)) h ?_ ?_
          · intro u10 u11 h
            exact eLeaf (θ := (Sum.map (fun (s3 : Int32 × Int32 × Int32 × ST) => (s3.1, s3.2.1, s3.2.2.1, mkM K R s3.2.2.2)) (fun (e3 : Int32 × Int32 × ST) => (e3.1, e3.2.1, mkM K R e3.2.2)))) h rfl
          · intro j12 fj12 Jj12 h
            refine eIF h (fun c13 h => ?_) (fun c13 h => ?_)
            · refine eGR (kd_8 hL) (Nat.le_of_ble_eq_true rfl) (rd_told hL) ?_
              refine eGR (kW_0 (layT hL)) (k8W 0 (layT hL)) (rW_0_3 (layT hL)) ?_
              refine eRI (kW_4 (layT hL)) h (fun v14 h => ?_)
              exact Jj12 _ _ h
            · exact Jj12 _ _ h
      · intro e3 h
        refine eIF h (fun c15 h => ?_) (fun c15 h => ?_)
        · exact eLeaf (θ := (fun (o : (Int32 × ST)) => (o.1, mkM K R o.2))) h rfl
        · exact eLeaf (θ := (fun (o : (Int32 × ST)) => (o.1, mkM K R o.2))) h rfl
    · exact eLeaf (θ := (fun (o : (Int32 × ST)) => (o.1, mkM K R o.2))) h rfl
-- OnlyUpward.task(II)I
set_option maxRecDepth 100000 in
set_option maxHeartbeats 4000000 in
def E_X11_task (n : Nat) (S : ST) (tw : Nat) (a1 : Int32) (a2 : Int32) : Option (Int32 × ST) :=
  (E_X11_isOne n S tw (8 : Int32) a1).bind fun v1 => if v1 = 0 then some ((-1 : Int32), S) else (E_X11_isOne n S tw (1 : Int32) a2).bind fun v3 => if v3 = 0 then some ((-1 : Int32), S) else (iter (fun (s5 : Int32 × Int32 × ST) => (rd (s5.2.2.1 (tw + 1)) 11 (2 : Int32)).bind fun v6 => if v6 ≤ s5.2.1 then some (.inr (s5.1, s5.2.2)) else (rd (s5.2.2.1 (tw + 12)) 4 a1).bind fun v8 => (E_X11_hasBit n s5.2.2 v8 s5.2.1).bind fun v9 => jn (fun (u10 : Int32) (S11 : ST) => some (.inl (u10, (s5.2.1 + (1 : Int32)), S11))) fun j12 => if v9 = 0 then j12 s5.1 s5.2.2 else (E_X11_soonFromFirst n s5.2.2 tw a2 s5.2.1).bind fun v14 => j12 (mxI s5.1 v14.1) v14.2) n ((0 : Int32), (0 : Int32), S)).bind fun (e5 : Int32 × ST) => (E_X11_orNever n e5.2 e5.1).bind fun v15 => some (v15, e5.2)
set_option maxRecDepth 100000 in
set_option maxHeartbeats 4000000 in
theorem E_X11_task_ok {n : Nat} (hn : 30000 ≤ n) {K : AK} {R : Nat → Nat → Option Nat} {S : ST} {a1 : Int32} {a2 : Int32} {tw en : Nat} (hL : Lay K R tw en) {o : (Int32 × ST)} (h : E_X11_task n S tw a1 a2 = some o) : F_X11_task n (mkM K R S) 8 a1 a2 = some (o.1, mkM K R o.2) := by
  unfold E_X11_task at h
  unfold F_X11_task
  refine eCV (kd_8 hL) (Nat.le_of_ble_eq_true rfl) (fun _ hv => E_X11_isOne_ok hn hL hv) h (fun v1 h => ?_)
  refine eIF h (fun c2 h => ?_) (fun c2 h => ?_)
  · exact eLeaf (θ := (fun (o : (Int32 × ST)) => (o.1, mkM K R o.2))) h rfl
  · refine eCV (kd_8 hL) (Nat.le_of_ble_eq_true rfl) (fun _ hv => E_X11_isOne_ok hn hL hv) h (fun v3 h => ?_)
    refine eIF h (fun c4 h => ?_) (fun c4 h => ?_)
    · exact eLeaf (θ := (fun (o : (Int32 × ST)) => (o.1, mkM K R o.2))) h rfl
    · refine eLP (fun (s5 : Int32 × Int32 × ST) => (s5.1, s5.2.1, mkM K R s5.2.2)) (fun (e5 : Int32 × ST) => (e5.1, mkM K R e5.2)) h rfl ?_ ?_
      · intro s5 x5 h
        refine eGR (kd_8 hL) (Nat.le_of_ble_eq_true rfl) (rd_told hL) ?_
        refine eGR (kW_0 (layT hL)) (k8W 0 (layT hL)) (rW_0_0 (layT hL)) ?_
        refine eRI (kW_1 (layT hL)) h (fun v6 h => ?_)
        refine eIF h (fun c7 h => ?_) (fun c7 h => ?_)
        · exact eLeaf (θ := (Sum.map (fun (s5 : Int32 × Int32 × ST) => (s5.1, s5.2.1, mkM K R s5.2.2)) (fun (e5 : Int32 × ST) => (e5.1, mkM K R e5.2)))) h rfl
        · refine eGR (kd_8 hL) (Nat.le_of_ble_eq_true rfl) (rd_told hL) ?_
          refine eGR (kW_0 (layT hL)) (k8W 0 (layT hL)) (rW_0_11 (layT hL)) ?_
          refine eRI (kW_12 (layT hL)) h (fun v8 h => ?_)
          refine eCS (fun _ hv => E_X11_hasBit_ok hn hL hv) h (fun v9 h => ?_)
          refine eJN (fun j12 fj12 => ∀ (u10 : Int32) (S11 : ST), j12 u10 S11 = some x5 → fj12 u10 (mkM K R S11) = some (Sum.map (fun (s5 : Int32 × Int32 × ST) => (s5.1, s5.2.1, mkM K R s5.2.2)) (fun (e5 : Int32 × ST) => (e5.1, mkM K R e5.2)) x5)) h ?_ ?_
          · intro u10 S11 h
            exact eLeaf (θ := (Sum.map (fun (s5 : Int32 × Int32 × ST) => (s5.1, s5.2.1, mkM K R s5.2.2)) (fun (e5 : Int32 × ST) => (e5.1, mkM K R e5.2)))) h rfl
          · intro j12 fj12 Jj12 h
            refine eIF h (fun c13 h => ?_) (fun c13 h => ?_)
            · exact Jj12 _ _ h
            · refine eCwiV (kd_8 hL) (Nat.le_of_ble_eq_true rfl) (fun _ hv => E_X11_soonFromFirst_ok hn hL hv) h (fun v14 h => ?_)
              exact Jj12 _ _ h
      · intro e5 h
        refine eCS (fun _ hv => E_X11_orNever_ok hn hL hv) h (fun v15 h => ?_)
        exact eLeaf (θ := (fun (o : (Int32 × ST)) => (o.1, mkM K R o.2))) h rfl
