-- OnlyUpwardModel.below(II)I
set_option maxRecDepth 100000 in
set_option maxHeartbeats 4000000 in
def E_X12_below (n : Nat) (S : ST) (a1 : Int32) (a2 : Int32) : Option (Int32 × ST) :=
  (E_X12_isPerson n S a1).bind fun v1 => if v1 = 0 then some ((-1 : Int32), S) else (E_X12_isHour n S a2).bind fun v3 => if v3 = 0 then some ((-1 : Int32), S) else lets (upI S 95 61 (0 : Int32)) fun (S5 : ST) => (E_X12_youngerIn n S5 a1 a2).bind fun v6 => some (v6, S5)
set_option maxRecDepth 100000 in
set_option maxHeartbeats 4000000 in
theorem E_X12_below_ok {n : Nat} (hn : 30000 ≤ n) {K : AK} {R : Nat → Nat → Option Nat} {S : ST} {a1 : Int32} {a2 : Int32} {tz en : Nat} (hL : Lay K R tz en) {o : (Int32 × ST)} (h : E_X12_below n S a1 a2 = some o) : F_X12_below n (mkM K R S) 95 a1 a2 = some (o.1, mkM K R o.2) := by
  unfold E_X12_below at h
  unfold F_X12_below
  refine eCV (kd_95 hL) (Nat.le_of_ble_eq_true rfl) (fun _ hv => E_X12_isPerson_ok hn hL hv) h (fun v1 h => ?_)
  refine eIF h (fun c2 h => ?_) (fun c2 h => ?_)
  · exact eLeaf (θ := (fun (o : (Int32 × ST)) => (o.1, mkM K R o.2))) h rfl
  · refine eCS (fun _ hv => E_X12_isHour_ok hn hL hv) h (fun v3 h => ?_)
    refine eIF h (fun c4 h => ?_) (fun c4 h => ?_)
    · exact eLeaf (θ := (fun (o : (Int32 × ST)) => (o.1, mkM K R o.2))) h rfl
    · refine ePI (kd_95 hL) (Nat.le_of_ble_eq_true rfl) h (fun S5 h => ?_)
      refine eCV (kd_95 hL) (Nat.le_of_ble_eq_true rfl) (fun _ hv => E_X12_youngerIn_ok hn hL hv) h (fun v6 h => ?_)
      exact eLeaf (θ := (fun (o : (Int32 × ST)) => (o.1, mkM K R o.2))) h rfl
-- OnlyUpwardModel.isSet(I)Z
set_option maxRecDepth 100000 in
set_option maxHeartbeats 4000000 in
def E_X12_isSet (n : Nat) (S : ST) (a1 : Int32) : Option Int32 :=
  (E_X12_has n S (1 : Int32)).bind fun v1 => (E_X12_in n S a1 (0 : Int32) (((1 : Int32) <<< (v1 &&& 31)) - (1 : Int32))).bind fun v2 => gd (narrow .boolean (.int v2) = .int v2) (some v2)
set_option maxRecDepth 100000 in
set_option maxHeartbeats 4000000 in
theorem E_X12_isSet_ok {n : Nat} (hn : 30000 ≤ n) {K : AK} {R : Nat → Nat → Option Nat} {S : ST} {a1 : Int32} {tz en : Nat} (hL : Lay K R tz en) {o : Int32} (h : E_X12_isSet n S a1 = some o) : F_X12_isSet n (mkM K R S) 95 a1 = some o := by
  unfold E_X12_isSet at h
  unfold F_X12_isSet
  refine eCV (kd_95 hL) (Nat.le_of_ble_eq_true rfl) (fun _ hv => E_X12_has_ok hn hL hv) h (fun v1 h => ?_)
  refine eCS (fun _ hv => E_X12_in_ok hn hL hv) h (fun v2 h => ?_)
  refine eGD h (fun c3 h => ?_)
  exact eLeaf (θ := (fun (o : Int32) => o)) h rfl
-- OnlyUpwardModel.stand(III)I
set_option maxRecDepth 100000 in
set_option maxHeartbeats 4000000 in
def E_X12_stand (n : Nat) (S : ST) (a1 : Int32) (a2 : Int32) (a3 : Int32) : Option (Int32 × ST) :=
  (E_X12_isPlace n S a1).bind fun v1 => if v1 = 0 then some ((-1 : Int32), S) else (E_X12_isHour n S a2).bind fun v3 => if v3 = 0 then some ((-1 : Int32), S) else (E_X12_isSet n S a3).bind fun v5 => if v5 = 0 then some ((-1 : Int32), S) else lets (upI S 95 61 (0 : Int32)) fun (S7 : ST) => (E_X12_earshotOf n S7 a1 a2).bind fun v8 => some ((a3 &&& (v8 ^^^ (-1 : Int32))), S7)
set_option maxRecDepth 100000 in
set_option maxHeartbeats 4000000 in
theorem E_X12_stand_ok {n : Nat} (hn : 30000 ≤ n) {K : AK} {R : Nat → Nat → Option Nat} {S : ST} {a1 : Int32} {a2 : Int32} {a3 : Int32} {tz en : Nat} (hL : Lay K R tz en) {o : (Int32 × ST)} (h : E_X12_stand n S a1 a2 a3 = some o) : F_X12_stand n (mkM K R S) 95 a1 a2 a3 = some (o.1, mkM K R o.2) := by
  unfold E_X12_stand at h
  unfold F_X12_stand
  refine eCV (kd_95 hL) (Nat.le_of_ble_eq_true rfl) (fun _ hv => E_X12_isPlace_ok hn hL hv) h (fun v1 h => ?_)
  refine eIF h (fun c2 h => ?_) (fun c2 h => ?_)
  · exact eLeaf (θ := (fun (o : (Int32 × ST)) => (o.1, mkM K R o.2))) h rfl
  · refine eCS (fun _ hv => E_X12_isHour_ok hn hL hv) h (fun v3 h => ?_)
    refine eIF h (fun c4 h => ?_) (fun c4 h => ?_)
    · exact eLeaf (θ := (fun (o : (Int32 × ST)) => (o.1, mkM K R o.2))) h rfl
    · refine eCV (kd_95 hL) (Nat.le_of_ble_eq_true rfl) (fun _ hv => E_X12_isSet_ok hn hL hv) h (fun v5 h => ?_)
      refine eIF h (fun c6 h => ?_) (fun c6 h => ?_)
      · exact eLeaf (θ := (fun (o : (Int32 × ST)) => (o.1, mkM K R o.2))) h rfl
      · refine ePI (kd_95 hL) (Nat.le_of_ble_eq_true rfl) h (fun S7 h => ?_)
        refine eCV (kd_95 hL) (Nat.le_of_ble_eq_true rfl) (fun _ hv => E_X12_earshotOf_ok hn hL hv) h (fun v8 h => ?_)
        exact eLeaf (θ := (fun (o : (Int32 × ST)) => (o.1, mkM K R o.2))) h rfl
-- OnlyUpwardModel.best(III)I
set_option maxRecDepth 100000 in
set_option maxHeartbeats 4000000 in
def E_X12_best (n : Nat) (S : ST) (a1 : Int32) (a2 : Int32) (a3 : Int32) : Option (Int32 × ST) :=
  (E_X12_isPerson n S a1).bind fun v1 => if v1 = 0 then some ((-1 : Int32), S) else (E_X12_isHour n S a2).bind fun v3 => if v3 = 0 then some ((-1 : Int32), S) else (E_X12_isSet n S a3).bind fun v5 => if v5 = 0 then some ((-1 : Int32), S) else lets (upI S 95 61 (0 : Int32)) fun (S7 : ST) => (iter (fun (s8 : Int32 × ST) => if (24 : Int32) ≤ s8.1 then some (.inr (.inl s8.2)) else (E_X12_placeOf n s8.2 a1 s8.1).bind fun v10 => jn (fun (S11 : ST) => some (.inl ((s8.1 + (1 : Int32)), S11))) fun j12 => if v10 < 0 then j12 s8.2 else (E_X12_speaks n s8.2 a1 s8.1 (0 : Int32)).bind fun v14 => if v14.1 = 0 then j12 v14.2 else (E_X12_earshotOf n v14.2 v10 s8.1).bind fun v16 => if (a3 &&& (v16 ^^^ (-1 : Int32))) = 0 then some (.inr (.inr (s8.1, v14.2))) else j12 v14.2) n (a2, S7)).bind fun (z8 : (ST) ⊕ (Int32 × ST)) => Sum.elim (fun (e8 : ST) => some ((-2 : Int32), e8)) (fun (v : (Int32 × ST)) => some v) z8
set_option maxRecDepth 100000 in
set_option maxHeartbeats 4000000 in
theorem E_X12_best_ok {n : Nat} (hn : 30000 ≤ n) {K : AK} {R : Nat → Nat → Option Nat} {S : ST} {a1 : Int32} {a2 : Int32} {a3 : Int32} {tz en : Nat} (hL : Lay K R tz en) {o : (Int32 × ST)} (h : E_X12_best n S a1 a2 a3 = some o) : F_X12_best n (mkM K R S) 95 a1 a2 a3 = some (o.1, mkM K R o.2) := by
  unfold E_X12_best at h
  unfold F_X12_best
  refine eCV (kd_95 hL) (Nat.le_of_ble_eq_true rfl) (fun _ hv => E_X12_isPerson_ok hn hL hv) h (fun v1 h => ?_)
  refine eIF h (fun c2 h => ?_) (fun c2 h => ?_)
  · exact eLeaf (θ := (fun (o : (Int32 × ST)) => (o.1, mkM K R o.2))) h rfl
  · refine eCS (fun _ hv => E_X12_isHour_ok hn hL hv) h (fun v3 h => ?_)
    refine eIF h (fun c4 h => ?_) (fun c4 h => ?_)
    · exact eLeaf (θ := (fun (o : (Int32 × ST)) => (o.1, mkM K R o.2))) h rfl
    · refine eCV (kd_95 hL) (Nat.le_of_ble_eq_true rfl) (fun _ hv => E_X12_isSet_ok hn hL hv) h (fun v5 h => ?_)
      refine eIF h (fun c6 h => ?_) (fun c6 h => ?_)
      · exact eLeaf (θ := (fun (o : (Int32 × ST)) => (o.1, mkM K R o.2))) h rfl
      · refine ePI (kd_95 hL) (Nat.le_of_ble_eq_true rfl) h (fun S7 h => ?_)
        refine eLP (fun (s8 : Int32 × ST) => (s8.1, mkM K R s8.2)) (Sum.map (fun (e8 : ST) => mkM K R e8) (fun (v : (Int32 × ST)) => (v.1, mkM K R v.2))) h rfl ?_ ?_
        · intro s8 x8 h
          refine eIF h (fun c9 h => ?_) (fun c9 h => ?_)
          · exact eLeaf (θ := (Sum.map (fun (s8 : Int32 × ST) => (s8.1, mkM K R s8.2)) (Sum.map (fun (e8 : ST) => mkM K R e8) (fun (v : (Int32 × ST)) => (v.1, mkM K R v.2))))) h rfl
          · refine eCV (kd_95 hL) (Nat.le_of_ble_eq_true rfl) (fun _ hv => E_X12_placeOf_ok hn hL hv) h (fun v10 h => ?_)
            refine eJN (fun j12 fj12 => ∀ (S11 : ST), j12 S11 = some x8 → fj12 (mkM K R S11) = some (Sum.map (fun (s8 : Int32 × ST) => (s8.1, mkM K R s8.2)) (Sum.map (fun (e8 : ST) => mkM K R e8) (fun (v : (Int32 × ST)) => (v.1, mkM K R v.2))) x8)) h ?_ ?_
            · intro S11 h
              exact eLeaf (θ := (Sum.map (fun (s8 : Int32 × ST) => (s8.1, mkM K R s8.2)) (Sum.map (fun (e8 : ST) => mkM K R e8) (fun (v : (Int32 × ST)) => (v.1, mkM K R v.2))))) h rfl
            · intro j12 fj12 Jj12 h
              refine eIF h (fun c13 h => ?_) (fun c13 h => ?_)
              · exact Jj12 _ h
              · refine eCwiV (kd_95 hL) (Nat.le_of_ble_eq_true rfl) (fun _ hv => E_X12_speaks_ok hn hL hv) h (fun v14 h => ?_)
                refine eIF h (fun c15 h => ?_) (fun c15 h => ?_)
                · exact Jj12 _ h
                · refine eCV (kd_95 hL) (Nat.le_of_ble_eq_true rfl) (fun _ hv => E_X12_earshotOf_ok hn hL hv) h (fun v16 h => ?_)
                  refine eIF h (fun c17 h => ?_) (fun c17 h => ?_)
                  · exact eLeaf (θ := (Sum.map (fun (s8 : Int32 × ST) => (s8.1, mkM K R s8.2)) (Sum.map (fun (e8 : ST) => mkM K R e8) (fun (v : (Int32 × ST)) => (v.1, mkM K R v.2))))) h rfl
                  · exact Jj12 _ h
        · intro z8 h
          rcases z8 with e8 | v
          · have h := sum_inl h
            exact eLeaf (θ := (fun (o : (Int32 × ST)) => (o.1, mkM K R o.2))) h rfl
          · have h := sum_inr h
            exact eLeaf (θ := (fun (o : (Int32 × ST)) => (o.1, mkM K R o.2))) h rfl
-- OnlyUpwardModel.lostWith(II)I
set_option maxRecDepth 100000 in
set_option maxHeartbeats 4000000 in
def E_X12_lostWith (n : Nat) (S : ST) (a1 : Int32) (a2 : Int32) : Option Int32 :=
  (rd (S.1 144) 250 (((10 : Int32) * a2) + a1)).bind fun v1 => (iter (fun (s2 : Int32 × Int32) => (E_X12_has n S (1 : Int32)).bind fun v3 => if v3 ≤ s2.2 then some (.inr s2.1) else jn (fun (u5 : Int32) => some (.inl (u5, (s2.2 + (1 : Int32))))) fun j6 => if s2.2 = a1 then j6 s2.1 else (rd (S.1 144) 250 (((10 : Int32) * a2) + s2.2)).bind fun v8 => j6 (s2.1 &&& (v8 ^^^ (-1 : Int32)))) n (v1, (0 : Int32))).bind fun (e2 : Int32) => some e2
set_option maxRecDepth 100000 in
set_option maxHeartbeats 4000000 in
theorem E_X12_lostWith_ok {n : Nat} (hn : 30000 ≤ n) {K : AK} {R : Nat → Nat → Option Nat} {S : ST} {a1 : Int32} {a2 : Int32} {tz en : Nat} (hL : Lay K R tz en) {o : Int32} (h : E_X12_lostWith n S a1 a2 = some o) : F_X12_lostWith n (mkM K R S) 95 a1 a2 = some o := by
  unfold E_X12_lostWith at h
  unfold F_X12_lostWith
  refine eGR (kd_95 hL) (Nat.le_of_ble_eq_true rfl) (rd_95_68 hL) ?_
  refine eRI (kd_144 hL) h (fun v1 h => ?_)
  refine eLP (fun (s2 : Int32 × Int32) => s2) (fun (e2 : Int32) => e2) h rfl ?_ ?_
  · intro s2 x2 h
    refine eCV (kd_95 hL) (Nat.le_of_ble_eq_true rfl) (fun _ hv => E_X12_has_ok hn hL hv) h (fun v3 h => ?_)
    refine eIF h (fun c4 h => ?_) (fun c4 h => ?_)
    · exact eLeaf (θ := (Sum.map (fun (s2 : Int32 × Int32) => s2) (fun (e2 : Int32) => e2))) h rfl
    · refine eJN (fun j6 fj6 => ∀ (u5 : Int32), j6 u5 = some x2 → fj6 u5 = some (Sum.map (fun (s2 : Int32 × Int32) => s2) (fun (e2 : Int32) => e2) x2)) h ?_ ?_
      · intro u5 h
        exact eLeaf (θ := (Sum.map (fun (s2 : Int32 × Int32) => s2) (fun (e2 : Int32) => e2))) h rfl
      · intro j6 fj6 Jj6 h
        refine eIF h (fun c7 h => ?_) (fun c7 h => ?_)
        · exact Jj6 _ h
        · refine eGR (kd_95 hL) (Nat.le_of_ble_eq_true rfl) (rd_95_68 hL) ?_
          refine eRI (kd_144 hL) h (fun v8 h => ?_)
          exact Jj6 _ h
  · intro e2 h
    exact eLeaf (θ := (fun (o : Int32) => o)) h rfl
-- OnlyUpwardModel.lost(II)I
set_option maxRecDepth 100000 in
set_option maxHeartbeats 4000000 in
def E_X12_lost (n : Nat) (S : ST) (a1 : Int32) (a2 : Int32) : Option (Int32 × ST) :=
  (E_X12_isPerson n S a1).bind fun v1 => if v1 = 0 then some ((-1 : Int32), S) else (E_X12_isEnd n S a2).bind fun v3 => if v3 = 0 then some ((-1 : Int32), S) else (E_X12_goesAsTold n S ).bind fun S6 => (E_X12_lostWith n S6 a1 a2).bind fun v7 => some (v7, S6)
set_option maxRecDepth 100000 in
set_option maxHeartbeats 4000000 in
theorem E_X12_lost_ok {n : Nat} (hn : 30000 ≤ n) {K : AK} {R : Nat → Nat → Option Nat} {S : ST} {a1 : Int32} {a2 : Int32} {tz en : Nat} (hL : Lay K R tz en) {o : (Int32 × ST)} (h : E_X12_lost n S a1 a2 = some o) : F_X12_lost n (mkM K R S) 95 a1 a2 = some (o.1, mkM K R o.2) := by
  unfold E_X12_lost at h
  unfold F_X12_lost
  refine eCV (kd_95 hL) (Nat.le_of_ble_eq_true rfl) (fun _ hv => E_X12_isPerson_ok hn hL hv) h (fun v1 h => ?_)
  refine eIF h (fun c2 h => ?_) (fun c2 h => ?_)
  · exact eLeaf (θ := (fun (o : (Int32 × ST)) => (o.1, mkM K R o.2))) h rfl
  · refine eCS (fun _ hv => E_X12_isEnd_ok hn hL hv) h (fun v3 h => ?_)
    refine eIF h (fun c4 h => ?_) (fun c4 h => ?_)
    · exact eLeaf (θ := (fun (o : (Int32 × ST)) => (o.1, mkM K R o.2))) h rfl
    · refine eCwV (kd_95 hL) (Nat.le_of_ble_eq_true rfl) (fun _ hv => E_X12_goesAsTold_ok hn hL hv) h (fun S6 h => ?_)
      refine eCV (kd_95 hL) (Nat.le_of_ble_eq_true rfl) (fun _ hv => E_X12_lostWith_ok hn hL hv) h (fun v7 h => ?_)
      exact eLeaf (θ := (fun (o : (Int32 × ST)) => (o.1, mkM K R o.2))) h rfl
-- OnlyUpwardModel.before(II)I
set_option maxRecDepth 100000 in
set_option maxHeartbeats 4000000 in
def E_X12_before (n : Nat) (S : ST) (a1 : Int32) (a2 : Int32) : Option (Int32 × ST) :=
  (E_X12_isPerson n S a1).bind fun v1 => if v1 = 0 then some ((-1 : Int32), S) else (E_X12_isEnd n S a2).bind fun v3 => if v3 = 0 then some ((-1 : Int32), S) else (E_X12_goesAsTold n S ).bind fun S6 => (E_X12_lostWith n S6 a1 a2).bind fun v7 => (iter (fun (s8 : Int32 × Int32) => (E_X12_has n S6 (2 : Int32)).bind fun v9 => if v9 ≤ s8.2 then some (.inr s8.1) else jn (fun (u11 : Int32) => some (.inl (u11, (s8.2 + (1 : Int32))))) fun j12 => if ((v7 >>> (s8.2 &&& 31)) &&& (1 : Int32)) = (1 : Int32) then jn (j12 s8.2) fun j14 => if s8.1 < 0 then j14 else (rd (S6.1 110) 12 (((6 : Int32) * (S6.1 95 18)) + s8.2)).bind fun v16 => (rd (S6.1 110) 12 (((6 : Int32) * (S6.1 95 18)) + s8.1)).bind fun v17 => if v16 ≤ v17 then j12 s8.1 else j14 else j12 s8.1) n ((-2 : Int32), (0 : Int32))).bind fun (e8 : Int32) => some (e8, S6)
set_option maxRecDepth 100000 in
set_option maxHeartbeats 4000000 in
theorem E_X12_before_ok {n : Nat} (hn : 30000 ≤ n) {K : AK} {R : Nat → Nat → Option Nat} {S : ST} {a1 : Int32} {a2 : Int32} {tz en : Nat} (hL : Lay K R tz en) {o : (Int32 × ST)} (h : E_X12_before n S a1 a2 = some o) : F_X12_before n (mkM K R S) 95 a1 a2 = some (o.1, mkM K R o.2) := by
  unfold E_X12_before at h
  unfold F_X12_before
  refine eCV (kd_95 hL) (Nat.le_of_ble_eq_true rfl) (fun _ hv => E_X12_isPerson_ok hn hL hv) h (fun v1 h => ?_)
  refine eIF h (fun c2 h => ?_) (fun c2 h => ?_)
  · exact eLeaf (θ := (fun (o : (Int32 × ST)) => (o.1, mkM K R o.2))) h rfl
  · refine eCS (fun _ hv => E_X12_isEnd_ok hn hL hv) h (fun v3 h => ?_)
    refine eIF h (fun c4 h => ?_) (fun c4 h => ?_)
    · exact eLeaf (θ := (fun (o : (Int32 × ST)) => (o.1, mkM K R o.2))) h rfl
    · refine eCwV (kd_95 hL) (Nat.le_of_ble_eq_true rfl) (fun _ hv => E_X12_goesAsTold_ok hn hL hv) h (fun S6 h => ?_)
      refine eCV (kd_95 hL) (Nat.le_of_ble_eq_true rfl) (fun _ hv => E_X12_lostWith_ok hn hL hv) h (fun v7 h => ?_)
      refine eLP (fun (s8 : Int32 × Int32) => s8) (fun (e8 : Int32) => e8) h rfl ?_ ?_
      · intro s8 x8 h
        refine eCV (kd_95 hL) (Nat.le_of_ble_eq_true rfl) (fun _ hv => E_X12_has_ok hn hL hv) h (fun v9 h => ?_)
        refine eIF h (fun c10 h => ?_) (fun c10 h => ?_)
        · exact eLeaf (θ := (Sum.map (fun (s8 : Int32 × Int32) => s8) (fun (e8 : Int32) => e8))) h rfl
        · refine eJN (fun j12 fj12 => ∀ (u11 : Int32), j12 u11 = some x8 → fj12 u11 = some (Sum.map (fun (s8 : Int32 × Int32) => s8) (fun (e8 : Int32) => e8) x8)) h ?_ ?_
          · intro u11 h
            exact eLeaf (θ := (Sum.map (fun (s8 : Int32 × Int32) => s8) (fun (e8 : Int32) => e8))) h rfl
          · intro j12 fj12 Jj12 h
            refine eIF h (fun c13 h => ?_) (fun c13 h => ?_)
            · refine eJN (fun j14 fj14 => j14 = some x8 → fj14 = some (Sum.map (fun (s8 : Int32 × Int32) => s8) (fun (e8 : Int32) => e8) x8)) h ?_ ?_
              · intro h
                exact Jj12 _ h
              · intro j14 fj14 Jj14 h
                refine eIF h (fun c15 h => ?_) (fun c15 h => ?_)
                · exact Jj14 h
                · refine eGR (kd_95 hL) (Nat.le_of_ble_eq_true rfl) (rd_95_28 hL) ?_
                  refine eGI (kd_95 hL) (Nat.le_of_ble_eq_true rfl) ?_
                  refine eRI (kd_110 hL) h (fun v16 h => ?_)
                  refine eGR (kd_95 hL) (Nat.le_of_ble_eq_true rfl) (rd_95_28 hL) ?_
                  refine eGI (kd_95 hL) (Nat.le_of_ble_eq_true rfl) ?_
                  refine eRI (kd_110 hL) h (fun v17 h => ?_)
                  refine eIF h (fun c18 h => ?_) (fun c18 h => ?_)
                  · exact Jj12 _ h
                  · exact Jj14 h
            · exact Jj12 _ h
      · intro e8 h
        exact eLeaf (θ := (fun (o : (Int32 × ST)) => (o.1, mkM K R o.2))) h rfl
-- OnlyUpwardModel.isMissed(I)Z
set_option maxRecDepth 100000 in
set_option maxHeartbeats 4000000 in
def E_X12_isMissed (n : Nat) (S : ST) (a1 : Int32) : Option Int32 :=
  (rd (S.1 119) 24 (((12 : Int32) * (S.1 95 18)) + a1)).bind fun v1 => (rd (S.1 121) 24 (((12 : Int32) * (S.1 95 18)) + a1)).bind fun v2 => (rd (S.1 120) 24 (((12 : Int32) * (S.1 95 18)) + a1)).bind fun v3 => (E_X12_knowsIt n S v1 v2 v3).bind fun v4 => if v4 = 0 then some (1 : Int32) else some (0 : Int32)
set_option maxRecDepth 100000 in
set_option maxHeartbeats 4000000 in
theorem E_X12_isMissed_ok {n : Nat} (hn : 30000 ≤ n) {K : AK} {R : Nat → Nat → Option Nat} {S : ST} {a1 : Int32} {tz en : Nat} (hL : Lay K R tz en) {o : Int32} (h : E_X12_isMissed n S a1 = some o) : F_X12_isMissed n (mkM K R S) 95 a1 = some o := by
  unfold E_X12_isMissed at h
  unfold F_X12_isMissed
  refine eGI (kd_95 hL) (Nat.le_of_ble_eq_true rfl) ?_
  refine eGR (kd_95 hL) (Nat.le_of_ble_eq_true rfl) (rd_95_37 hL) ?_
  refine eRI (kd_119 hL) h (fun v1 h => ?_)
  refine eGR (kd_95 hL) (Nat.le_of_ble_eq_true rfl) (rd_95_39 hL) ?_
  refine eRI (kd_121 hL) h (fun v2 h => ?_)
  refine eGR (kd_95 hL) (Nat.le_of_ble_eq_true rfl) (rd_95_38 hL) ?_
  refine eRI (kd_120 hL) h (fun v3 h => ?_)
  refine eCV (kd_95 hL) (Nat.le_of_ble_eq_true rfl) (fun _ hv => E_X12_knowsIt_ok hn hL hv) h (fun v4 h => ?_)
  refine eIF h (fun c5 h => ?_) (fun c5 h => ?_)
  · exact eLeaf (θ := (fun (o : Int32) => o)) h rfl
  · exact eLeaf (θ := (fun (o : Int32) => o)) h rfl
-- OnlyUpwardModel.missed(I)I
set_option maxRecDepth 100000 in
set_option maxHeartbeats 4000000 in
def E_X12_missed (n : Nat) (S : ST) (a1 : Int32) : Option (Int32 × ST) :=
  (E_X12_goesAsTold n S ).bind fun S2 => (iter (fun (s3 : Int32 × Int32) => (E_X12_has n S2 (6 : Int32)).bind fun v4 => if v4 ≤ s3.2 then some (.inr (.inl s3.1)) else (E_X12_isMissed n S2 s3.2).bind fun v6 => jn (fun (u7 : Int32) => some (.inl (u7, (s3.2 + (1 : Int32))))) fun j8 => if v6 = 0 then j8 s3.1 else if s3.1 = a1 then some (.inr (.inr (s3.2, S2))) else j8 (s3.1 + (1 : Int32))) n ((0 : Int32), (0 : Int32))).bind fun (z3 : (Int32) ⊕ (Int32 × ST)) => Sum.elim (fun (e3 : Int32) => if a1 = (-1 : Int32) then some (e3, S2) else some ((-1 : Int32), S2)) (fun (v : (Int32 × ST)) => some v) z3
set_option maxRecDepth 100000 in
set_option maxHeartbeats 4000000 in
theorem E_X12_missed_ok {n : Nat} (hn : 30000 ≤ n) {K : AK} {R : Nat → Nat → Option Nat} {S : ST} {a1 : Int32} {tz en : Nat} (hL : Lay K R tz en) {o : (Int32 × ST)} (h : E_X12_missed n S a1 = some o) : F_X12_missed n (mkM K R S) 95 a1 = some (o.1, mkM K R o.2) := by
  unfold E_X12_missed at h
  unfold F_X12_missed
  refine eCwV (kd_95 hL) (Nat.le_of_ble_eq_true rfl) (fun _ hv => E_X12_goesAsTold_ok hn hL hv) h (fun S2 h => ?_)
  refine eLP (fun (s3 : Int32 × Int32) => s3) (Sum.map (fun (e3 : Int32) => e3) (fun (v : (Int32 × ST)) => (v.1, mkM K R v.2))) h rfl ?_ ?_
  · intro s3 x3 h
    refine eCV (kd_95 hL) (Nat.le_of_ble_eq_true rfl) (fun _ hv => E_X12_has_ok hn hL hv) h (fun v4 h => ?_)
    refine eIF h (fun c5 h => ?_) (fun c5 h => ?_)
    · exact eLeaf (θ := (Sum.map (fun (s3 : Int32 × Int32) => s3) (Sum.map (fun (e3 : Int32) => e3) (fun (v : (Int32 × ST)) => (v.1, mkM K R v.2))))) h rfl
    · refine eCV (kd_95 hL) (Nat.le_of_ble_eq_true rfl) (fun _ hv => E_X12_isMissed_ok hn hL hv) h (fun v6 h => ?_)
      refine eJN (fun j8 fj8 => ∀ (u7 : Int32), j8 u7 = some x3 → fj8 u7 = some (Sum.map (fun (s3 : Int32 × Int32) => s3) (Sum.map (fun (e3 : Int32) => e3) (fun (v : (Int32 × ST)) => (v.1, mkM K R v.2))) x3)) h ?_ ?_
      · intro u7 h
        exact eLeaf (θ := (Sum.map (fun (s3 : Int32 × Int32) => s3) (Sum.map (fun (e3 : Int32) => e3) (fun (v : (Int32 × ST)) => (v.1, mkM K R v.2))))) h rfl
      · intro j8 fj8 Jj8 h
        refine eIF h (fun c9 h => ?_) (fun c9 h => ?_)
        · exact Jj8 _ h
        · refine eIF h (fun c10 h => ?_) (fun c10 h => ?_)
          · exact eLeaf (θ := (Sum.map (fun (s3 : Int32 × Int32) => s3) (Sum.map (fun (e3 : Int32) => e3) (fun (v : (Int32 × ST)) => (v.1, mkM K R v.2))))) h rfl
          · exact Jj8 _ h
  · intro z3 h
    rcases z3 with e3 | v
    · have h := sum_inl h
      refine eIF h (fun c11 h => ?_) (fun c11 h => ?_)
      · exact eLeaf (θ := (fun (o : (Int32 × ST)) => (o.1, mkM K R o.2))) h rfl
      · exact eLeaf (θ := (fun (o : (Int32 × ST)) => (o.1, mkM K R o.2))) h rfl
    · have h := sum_inr h
      exact eLeaf (θ := (fun (o : (Int32 × ST)) => (o.1, mkM K R o.2))) h rfl
-- OnlyUpwardModel.worthOfMust(I)I
set_option maxRecDepth 100000 in
set_option maxHeartbeats 4000000 in
def E_X12_worthOfMust (n : Nat) (S : ST) (a1 : Int32) : Option Int32 :=
  (rd (S.1 120) 24 (((12 : Int32) * (S.1 95 18)) + a1)).bind fun v1 => (rd (S.1 110) 12 (((6 : Int32) * (S.1 95 18)) + v1)).bind fun v2 => some v2
set_option maxRecDepth 100000 in
set_option maxHeartbeats 4000000 in
theorem E_X12_worthOfMust_ok {n : Nat} (hn : 30000 ≤ n) {K : AK} {R : Nat → Nat → Option Nat} {S : ST} {a1 : Int32} {tz en : Nat} (hL : Lay K R tz en) {o : Int32} (h : E_X12_worthOfMust n S a1 = some o) : F_X12_worthOfMust n (mkM K R S) 95 a1 = some o := by
  unfold E_X12_worthOfMust at h
  unfold F_X12_worthOfMust
  refine eGR (kd_95 hL) (Nat.le_of_ble_eq_true rfl) (rd_95_28 hL) ?_
  refine eGI (kd_95 hL) (Nat.le_of_ble_eq_true rfl) ?_
  refine eGR (kd_95 hL) (Nat.le_of_ble_eq_true rfl) (rd_95_38 hL) ?_
  refine eGI (kd_95 hL) (Nat.le_of_ble_eq_true rfl) ?_
  refine eRI (kd_120 hL) h (fun v1 h => ?_)
  refine eRI (kd_110 hL) h (fun v2 h => ?_)
  exact eLeaf (θ := (fun (o : Int32) => o)) h rfl
-- OnlyUpwardModel.harmNow()I
set_option maxRecDepth 100000 in
set_option maxHeartbeats 4000000 in
def E_X12_harmNow (n : Nat) (S : ST) : Option Int32 :=
  (iter (fun (s1 : Int32 × Int32) => (E_X12_has n S (6 : Int32)).bind fun v2 => if v2 ≤ s1.2 then some (.inr s1.1) else (E_X12_isMissed n S s1.2).bind fun v4 => jn (fun (u5 : Int32) => some (.inl (u5, (s1.2 + (1 : Int32))))) fun j6 => if v4 = 0 then j6 s1.1 else (E_X12_worthOfMust n S s1.2).bind fun v8 => j6 (s1.1 + v8)) n ((0 : Int32), (0 : Int32))).bind fun (e1 : Int32) => some e1
set_option maxRecDepth 100000 in
set_option maxHeartbeats 4000000 in
theorem E_X12_harmNow_ok {n : Nat} (hn : 30000 ≤ n) {K : AK} {R : Nat → Nat → Option Nat} {S : ST} {tz en : Nat} (hL : Lay K R tz en) {o : Int32} (h : E_X12_harmNow n S  = some o) : F_X12_harmNow n (mkM K R S) 95 = some o := by
  unfold E_X12_harmNow at h
  unfold F_X12_harmNow
  refine eLP (fun (s1 : Int32 × Int32) => s1) (fun (e1 : Int32) => e1) h rfl ?_ ?_
  · intro s1 x1 h
    refine eCV (kd_95 hL) (Nat.le_of_ble_eq_true rfl) (fun _ hv => E_X12_has_ok hn hL hv) h (fun v2 h => ?_)
    refine eIF h (fun c3 h => ?_) (fun c3 h => ?_)
    · exact eLeaf (θ := (Sum.map (fun (s1 : Int32 × Int32) => s1) (fun (e1 : Int32) => e1))) h rfl
    · refine eCV (kd_95 hL) (Nat.le_of_ble_eq_true rfl) (fun _ hv => E_X12_isMissed_ok hn hL hv) h (fun v4 h => ?_)
      refine eJN (fun j6 fj6 => ∀ (u5 : Int32), j6 u5 = some x1 → fj6 u5 = some (Sum.map (fun (s1 : Int32 × Int32) => s1) (fun (e1 : Int32) => e1) x1)) h ?_ ?_
      · intro u5 h
        exact eLeaf (θ := (Sum.map (fun (s1 : Int32 × Int32) => s1) (fun (e1 : Int32) => e1))) h rfl
      · intro j6 fj6 Jj6 h
        refine eIF h (fun c7 h => ?_) (fun c7 h => ?_)
        · exact Jj6 _ h
        · refine eCV (kd_95 hL) (Nat.le_of_ble_eq_true rfl) (fun _ hv => E_X12_worthOfMust_ok hn hL hv) h (fun v8 h => ?_)
          exact Jj6 _ h
  · intro e1 h
    exact eLeaf (θ := (fun (o : Int32) => o)) h rfl
-- OnlyUpwardModel.harm()I
set_option maxRecDepth 100000 in
set_option maxHeartbeats 4000000 in
def E_X12_harm (n : Nat) (S : ST) : Option (Int32 × ST) :=
  (E_X12_goesAsTold n S ).bind fun S2 => (E_X12_harmNow n S2 ).bind fun v3 => some (v3, S2)
set_option maxRecDepth 100000 in
set_option maxHeartbeats 4000000 in
theorem E_X12_harm_ok {n : Nat} (hn : 30000 ≤ n) {K : AK} {R : Nat → Nat → Option Nat} {S : ST} {tz en : Nat} (hL : Lay K R tz en) {o : (Int32 × ST)} (h : E_X12_harm n S  = some o) : F_X12_harm n (mkM K R S) 95 = some (o.1, mkM K R o.2) := by
  unfold E_X12_harm at h
  unfold F_X12_harm
  refine eCwV (kd_95 hL) (Nat.le_of_ble_eq_true rfl) (fun _ hv => E_X12_goesAsTold_ok hn hL hv) h (fun S2 h => ?_)
  refine eCV (kd_95 hL) (Nat.le_of_ble_eq_true rfl) (fun _ hv => E_X12_harmNow_ok hn hL hv) h (fun v3 h => ?_)
  exact eLeaf (θ := (fun (o : (Int32 × ST)) => (o.1, mkM K R o.2))) h rfl
-- OnlyUpwardModel.knowFirst(I)I
set_option maxRecDepth 100000 in
set_option maxHeartbeats 4000000 in
def E_X12_knowFirst (n : Nat) (S : ST) (a1 : Int32) : Option Int32 :=
  (iter (fun (s1 : Int32 × Int32) => (E_X12_has n S (5 : Int32)).bind fun v2 => if v2 ≤ s1.2 then some (.inr s1.1) else (rd (S.1 118) 24 (((12 : Int32) * (S.1 95 18)) + s1.2)).bind fun v4 => jn (fun (u5 : Int32) => some (.inl (u5, (s1.2 + (1 : Int32))))) fun j6 => if v4 = a1 then (rd (S.1 117) 24 (((12 : Int32) * (S.1 95 18)) + s1.2)).bind fun v8 => j6 (s1.1 ||| ((1 : Int32) <<< (v8 &&& 31))) else j6 s1.1) n ((0 : Int32), (0 : Int32))).bind fun (e1 : Int32) => some e1
set_option maxRecDepth 100000 in
set_option maxHeartbeats 4000000 in
theorem E_X12_knowFirst_ok {n : Nat} (hn : 30000 ≤ n) {K : AK} {R : Nat → Nat → Option Nat} {S : ST} {a1 : Int32} {tz en : Nat} (hL : Lay K R tz en) {o : Int32} (h : E_X12_knowFirst n S a1 = some o) : F_X12_knowFirst n (mkM K R S) 95 a1 = some o := by
  unfold E_X12_knowFirst at h
  unfold F_X12_knowFirst
  refine eLP (fun (s1 : Int32 × Int32) => s1) (fun (e1 : Int32) => e1) h rfl ?_ ?_
  · intro s1 x1 h
    refine eCV (kd_95 hL) (Nat.le_of_ble_eq_true rfl) (fun _ hv => E_X12_has_ok hn hL hv) h (fun v2 h => ?_)
    refine eIF h (fun c3 h => ?_) (fun c3 h => ?_)
    · exact eLeaf (θ := (Sum.map (fun (s1 : Int32 × Int32) => s1) (fun (e1 : Int32) => e1))) h rfl
    · refine eGR (kd_95 hL) (Nat.le_of_ble_eq_true rfl) (rd_95_36 hL) ?_
      refine eGI (kd_95 hL) (Nat.le_of_ble_eq_true rfl) ?_
      refine eRI (kd_118 hL) h (fun v4 h => ?_)
      refine eJN (fun j6 fj6 => ∀ (u5 : Int32), j6 u5 = some x1 → fj6 u5 = some (Sum.map (fun (s1 : Int32 × Int32) => s1) (fun (e1 : Int32) => e1) x1)) h ?_ ?_
      · intro u5 h
        exact eLeaf (θ := (Sum.map (fun (s1 : Int32 × Int32) => s1) (fun (e1 : Int32) => e1))) h rfl
      · intro j6 fj6 Jj6 h
        refine eIF h (fun c7 h => ?_) (fun c7 h => ?_)
        · refine eGR (kd_95 hL) (Nat.le_of_ble_eq_true rfl) (rd_95_35 hL) ?_
          refine eGI (kd_95 hL) (Nat.le_of_ble_eq_true rfl) ?_
          refine eRI (kd_117 hL) h (fun v8 h => ?_)
          exact Jj6 _ h
        · exact Jj6 _ h
  · intro e1 h
    exact eLeaf (θ := (fun (o : Int32) => o)) h rfl
-- OnlyUpwardModel.can(I)I
set_option maxRecDepth 100000 in
set_option maxHeartbeats 4000000 in
def E_X12_can (n : Nat) (S : ST) (a1 : Int32) : Option (Int32 × ST) :=
  (E_X12_in n S a1 (0 : Int32) (1 : Int32)).bind fun v1 => if v1 = 0 then some ((-1 : Int32), S) else (iter (fun (s3 : Int32 × Int32 × Int32 × ST) => (E_X12_has n s3.2.2.2 (6 : Int32)).bind fun v4 => if v4 ≤ s3.2.2.1 then some (.inr (s3.1, s3.2.1, s3.2.2.2)) else (rd (s3.2.2.2.1 120) 24 (((12 : Int32) * (s3.2.2.2.1 95 18)) + s3.2.2.1)).bind fun v6 => (rd (s3.2.2.2.1 120) 24 (((12 : Int32) * (s3.2.2.2.1 95 18)) + s3.2.2.1)).bind fun v7 => (E_X12_knowFirst n s3.2.2.2 v7).bind fun v8 => (E_X12_spreads n s3.2.2.2 v6 v8 (0 : Int32) (0 : Int32) (0 : Int32)).bind fun S10 => (rd (S10.1 119) 24 (((12 : Int32) * (s3.2.2.2.1 95 18)) + s3.2.2.1)).bind fun v11 => (E_X12_soonOf n S10 v11 (0 : Int32)).bind fun v12 => jn (fun (u13 : Int32) (u14 : Int32) => some (.inl (u13, u14, (s3.2.2.1 + (1 : Int32)), S10))) fun j15 => jn ((E_X12_worthOfMust n S10 s3.2.2.1).bind fun v16 => j15 s3.1 (s3.2.1 + v16)) fun j17 => if v12 < 0 then j17 else (rd (S10.1 121) 24 (((12 : Int32) * (s3.2.2.2.1 95 18)) + s3.2.2.1)).bind fun v19 => if v19 < v12 then j17 else j15 (s3.1 + (1 : Int32)) s3.2.1) n ((0 : Int32), (0 : Int32), (0 : Int32), S)).bind fun (e3 : Int32 × Int32 × ST) => if a1 = 0 then some (e3.1, e3.2.2) else some (e3.2.1, e3.2.2)
set_option maxRecDepth 100000 in
set_option maxHeartbeats 4000000 in
theorem E_X12_can_ok {n : Nat} (hn : 30000 ≤ n) {K : AK} {R : Nat → Nat → Option Nat} {S : ST} {a1 : Int32} {tz en : Nat} (hL : Lay K R tz en) {o : (Int32 × ST)} (h : E_X12_can n S a1 = some o) : F_X12_can n (mkM K R S) 95 a1 = some (o.1, mkM K R o.2) := by
  unfold E_X12_can at h
  unfold F_X12_can
  refine eCS (fun _ hv => E_X12_in_ok hn hL hv) h (fun v1 h => ?_)
  refine eIF h (fun c2 h => ?_) (fun c2 h => ?_)
  · exact eLeaf (θ := (fun (o : (Int32 × ST)) => (o.1, mkM K R o.2))) h rfl
  · refine eLP (fun (s3 : Int32 × Int32 × Int32 × ST) => (s3.1, s3.2.1, s3.2.2.1, mkM K R s3.2.2.2)) (fun (e3 : Int32 × Int32 × ST) => (e3.1, e3.2.1, mkM K R e3.2.2)) h rfl ?_ ?_
    · intro s3 x3 h
      refine eCV (kd_95 hL) (Nat.le_of_ble_eq_true rfl) (fun _ hv => E_X12_has_ok hn hL hv) h (fun v4 h => ?_)
      refine eIF h (fun c5 h => ?_) (fun c5 h => ?_)
      · exact eLeaf (θ := (Sum.map (fun (s3 : Int32 × Int32 × Int32 × ST) => (s3.1, s3.2.1, s3.2.2.1, mkM K R s3.2.2.2)) (fun (e3 : Int32 × Int32 × ST) => (e3.1, e3.2.1, mkM K R e3.2.2)))) h rfl
      · refine eGI (kd_95 hL) (Nat.le_of_ble_eq_true rfl) ?_
        refine eGR (kd_95 hL) (Nat.le_of_ble_eq_true rfl) (rd_95_38 hL) ?_
        refine eRI (kd_120 hL) h (fun v6 h => ?_)
        refine eGR (kd_95 hL) (Nat.le_of_ble_eq_true rfl) (rd_95_38 hL) ?_
        refine eRI (kd_120 hL) h (fun v7 h => ?_)
        refine eCV (kd_95 hL) (Nat.le_of_ble_eq_true rfl) (fun _ hv => E_X12_knowFirst_ok hn hL hv) h (fun v8 h => ?_)
        refine eCwV (kd_95 hL) (Nat.le_of_ble_eq_true rfl) (fun _ hv => E_X12_spreads_ok hn hL hv) h (fun S10 h => ?_)
        refine eGR (kd_95 hL) (Nat.le_of_ble_eq_true rfl) (rd_95_37 hL) ?_
        refine eRI (kd_119 hL) h (fun v11 h => ?_)
        refine eCV (kd_95 hL) (Nat.le_of_ble_eq_true rfl) (fun _ hv => E_X12_soonOf_ok hn hL hv) h (fun v12 h => ?_)
        refine eJN (fun j15 fj15 => ∀ (u13 : Int32) (u14 : Int32), j15 u13 u14 = some x3 → fj15 u13 u14 = some (Sum.map (fun (s3 : Int32 × Int32 × Int32 × ST) => (s3.1, s3.2.1, s3.2.2.1, mkM K R s3.2.2.2)) (fun (e3 : Int32 × Int32 × ST) => (e3.1, e3.2.1, mkM K R e3.2.2)) x3)) h ?_ ?_
        · intro u13 u14 h
          exact eLeaf (θ := (Sum.map (fun (s3 : Int32 × Int32 × Int32 × ST) => (s3.1, s3.2.1, s3.2.2.1, mkM K R s3.2.2.2)) (fun (e3 : Int32 × Int32 × ST) => (e3.1, e3.2.1, mkM K R e3.2.2)))) h rfl
        · intro j15 fj15 Jj15 h
          refine eJN (fun j17 fj17 => j17 = some x3 → fj17 = some (Sum.map (fun (s3 : Int32 × Int32 × Int32 × ST) => (s3.1, s3.2.1, s3.2.2.1, mkM K R s3.2.2.2)) (fun (e3 : Int32 × Int32 × ST) => (e3.1, e3.2.1, mkM K R e3.2.2)) x3)) h ?_ ?_
          · intro h
            refine eCV (kd_95 hL) (Nat.le_of_ble_eq_true rfl) (fun _ hv => E_X12_worthOfMust_ok hn hL hv) h (fun v16 h => ?_)
            exact Jj15 _ _ h
          · intro j17 fj17 Jj17 h
            refine eIF h (fun c18 h => ?_) (fun c18 h => ?_)
            · exact Jj17 h
            · refine eGR (kd_95 hL) (Nat.le_of_ble_eq_true rfl) (rd_95_39 hL) ?_
              refine eRI (kd_121 hL) h (fun v19 h => ?_)
              refine eIF h (fun c20 h => ?_) (fun c20 h => ?_)
              · exact Jj17 h
              · exact Jj15 _ _ h
    · intro e3 h
      refine eIF h (fun c21 h => ?_) (fun c21 h => ?_)
      · exact eLeaf (θ := (fun (o : (Int32 × ST)) => (o.1, mkM K R o.2))) h rfl
      · exact eLeaf (θ := (fun (o : (Int32 × ST)) => (o.1, mkM K R o.2))) h rfl
-- OnlyUpwardModel.task(II)I
set_option maxRecDepth 100000 in
set_option maxHeartbeats 4000000 in
def E_X12_task (n : Nat) (S : ST) (a1 : Int32) (a2 : Int32) : Option (Int32 × ST) :=
  (rd (S.1 107) 2 (S.1 95 18)).bind fun v1 => (E_X12_in n S a1 (0 : Int32) (v1 - (1 : Int32))).bind fun v2 => if v2 = 0 then some ((-1 : Int32), S) else (E_X12_isPerson n S a2).bind fun v4 => if v4 = 0 then some ((-1 : Int32), S) else (iter (fun (s6 : Int32 × Int32 × ST) => (E_X12_has n s6.2.2 (2 : Int32)).bind fun v7 => if v7 ≤ s6.2.1 then some (.inr (.inl (s6.1, s6.2.2))) else (rd (s6.2.2.1 124) 8 (((4 : Int32) * (s6.2.2.1 95 18)) + a1)).bind fun v9 => jn (fun (u10 : Int32) (S11 : ST) => some (.inl (u10, (s6.2.1 + (1 : Int32)), S11))) fun j12 => if ((v9 >>> (s6.2.1 &&& 31)) &&& (1 : Int32)) = 0 then j12 s6.1 s6.2.2 else (E_X12_knowFirst n s6.2.2 s6.2.1).bind fun v14 => (E_X12_spreads n s6.2.2 s6.2.1 v14 (0 : Int32) (0 : Int32) (0 : Int32)).bind fun S16 => (E_X12_soonOf n S16 a2 (0 : Int32)).bind fun v17 => if 0 ≤ v17 then if v17 ≤ s6.1 then j12 s6.1 S16 else j12 v17 S16 else some (.inr (.inr ((-2 : Int32), S16)))) n ((0 : Int32), (0 : Int32), S)).bind fun (z6 : (Int32 × ST) ⊕ (Int32 × ST)) => Sum.elim (fun (e6 : Int32 × ST) => some (e6.1, e6.2)) (fun (v : (Int32 × ST)) => some v) z6
set_option maxRecDepth 100000 in
set_option maxHeartbeats 4000000 in
theorem E_X12_task_ok {n : Nat} (hn : 30000 ≤ n) {K : AK} {R : Nat → Nat → Option Nat} {S : ST} {a1 : Int32} {a2 : Int32} {tz en : Nat} (hL : Lay K R tz en) {o : (Int32 × ST)} (h : E_X12_task n S a1 a2 = some o) : F_X12_task n (mkM K R S) 95 a1 a2 = some (o.1, mkM K R o.2) := by
  unfold E_X12_task at h
  unfold F_X12_task
  refine eGR (kd_95 hL) (Nat.le_of_ble_eq_true rfl) (rd_95_25 hL) ?_
  refine eGI (kd_95 hL) (Nat.le_of_ble_eq_true rfl) ?_
  refine eRI (kd_107 hL) h (fun v1 h => ?_)
  refine eCS (fun _ hv => E_X12_in_ok hn hL hv) h (fun v2 h => ?_)
  refine eIF h (fun c3 h => ?_) (fun c3 h => ?_)
  · exact eLeaf (θ := (fun (o : (Int32 × ST)) => (o.1, mkM K R o.2))) h rfl
  · refine eCV (kd_95 hL) (Nat.le_of_ble_eq_true rfl) (fun _ hv => E_X12_isPerson_ok hn hL hv) h (fun v4 h => ?_)
    refine eIF h (fun c5 h => ?_) (fun c5 h => ?_)
    · exact eLeaf (θ := (fun (o : (Int32 × ST)) => (o.1, mkM K R o.2))) h rfl
    · refine eLP (fun (s6 : Int32 × Int32 × ST) => (s6.1, s6.2.1, mkM K R s6.2.2)) (Sum.map (fun (e6 : Int32 × ST) => (e6.1, mkM K R e6.2)) (fun (v : (Int32 × ST)) => (v.1, mkM K R v.2))) h rfl ?_ ?_
      · intro s6 x6 h
        refine eCV (kd_95 hL) (Nat.le_of_ble_eq_true rfl) (fun _ hv => E_X12_has_ok hn hL hv) h (fun v7 h => ?_)
        refine eIF h (fun c8 h => ?_) (fun c8 h => ?_)
        · exact eLeaf (θ := (Sum.map (fun (s6 : Int32 × Int32 × ST) => (s6.1, s6.2.1, mkM K R s6.2.2)) (Sum.map (fun (e6 : Int32 × ST) => (e6.1, mkM K R e6.2)) (fun (v : (Int32 × ST)) => (v.1, mkM K R v.2))))) h rfl
        · refine eGR (kd_95 hL) (Nat.le_of_ble_eq_true rfl) (rd_95_42 hL) ?_
          refine eGI (kd_95 hL) (Nat.le_of_ble_eq_true rfl) ?_
          refine eRI (kd_124 hL) h (fun v9 h => ?_)
          refine eJN (fun j12 fj12 => ∀ (u10 : Int32) (S11 : ST), j12 u10 S11 = some x6 → fj12 u10 (mkM K R S11) = some (Sum.map (fun (s6 : Int32 × Int32 × ST) => (s6.1, s6.2.1, mkM K R s6.2.2)) (Sum.map (fun (e6 : Int32 × ST) => (e6.1, mkM K R e6.2)) (fun (v : (Int32 × ST)) => (v.1, mkM K R v.2))) x6)) h ?_ ?_
          · intro u10 S11 h
            exact eLeaf (θ := (Sum.map (fun (s6 : Int32 × Int32 × ST) => (s6.1, s6.2.1, mkM K R s6.2.2)) (Sum.map (fun (e6 : Int32 × ST) => (e6.1, mkM K R e6.2)) (fun (v : (Int32 × ST)) => (v.1, mkM K R v.2))))) h rfl
          · intro j12 fj12 Jj12 h
            refine eIF h (fun c13 h => ?_) (fun c13 h => ?_)
            · exact Jj12 _ _ h
            · refine eCV (kd_95 hL) (Nat.le_of_ble_eq_true rfl) (fun _ hv => E_X12_knowFirst_ok hn hL hv) h (fun v14 h => ?_)
              refine eCwV (kd_95 hL) (Nat.le_of_ble_eq_true rfl) (fun _ hv => E_X12_spreads_ok hn hL hv) h (fun S16 h => ?_)
              refine eCV (kd_95 hL) (Nat.le_of_ble_eq_true rfl) (fun _ hv => E_X12_soonOf_ok hn hL hv) h (fun v17 h => ?_)
              refine eIF h (fun c18 h => ?_) (fun c18 h => ?_)
              · refine eIF h (fun c19 h => ?_) (fun c19 h => ?_)
                · exact Jj12 _ _ h
                · exact Jj12 _ _ h
              · exact eLeaf (θ := (Sum.map (fun (s6 : Int32 × Int32 × ST) => (s6.1, s6.2.1, mkM K R s6.2.2)) (Sum.map (fun (e6 : Int32 × ST) => (e6.1, mkM K R e6.2)) (fun (v : (Int32 × ST)) => (v.1, mkM K R v.2))))) h rfl
      · intro z6 h
        rcases z6 with e6 | v
        · have h := sum_inl h
          exact eLeaf (θ := (fun (o : (Int32 × ST)) => (o.1, mkM K R o.2))) h rfl
        · have h := sum_inr h
          exact eLeaf (θ := (fun (o : (Int32 × ST)) => (o.1, mkM K R o.2))) h rfl
-- OnlyUpwardModel.isAhead(IIIZ)Z
set_option maxRecDepth 100000 in
set_option maxHeartbeats 4000000 in
def E_X12_isAhead (n : Nat) (S : ST) (a1 : Int32) (a2 : Int32) (a3 : Int32) (a4 : Int32) : Option Int32 :=
  jn (fun (u1 : Int32) => jn (fun (u2 : Int32) => jn (some (1 : Int32)) fun j3 => if u2 < u1 then j3 else if u1 = u2 then (E_X12_ageAt n S a1 a3).bind fun v6 => (E_X12_ageAt n S a2 a3).bind fun v7 => if v6 ≤ v7 then some (0 : Int32) else j3 else some (0 : Int32)) fun j9 => if a4 = 0 then j9 (0 : Int32) else (rd (S.1 144) 250 (((10 : Int32) * a3) + a2)).bind fun v11 => (E_X12_bits n S v11).bind fun v12 => j9 v12) fun j13 => if a4 = 0 then j13 (0 : Int32) else (rd (S.1 144) 250 (((10 : Int32) * a3) + a1)).bind fun v15 => (E_X12_bits n S v15).bind fun v16 => j13 v16
set_option maxRecDepth 100000 in
set_option maxHeartbeats 4000000 in
theorem E_X12_isAhead_ok {n : Nat} (hn : 30000 ≤ n) {K : AK} {R : Nat → Nat → Option Nat} {S : ST} {a1 : Int32} {a2 : Int32} {a3 : Int32} {a4 : Int32} {tz en : Nat} (hL : Lay K R tz en) {o : Int32} (h : E_X12_isAhead n S a1 a2 a3 a4 = some o) : F_X12_isAhead n (mkM K R S) 95 a1 a2 a3 a4 = some o := by
  unfold E_X12_isAhead at h
  unfold F_X12_isAhead
  refine eJN (fun j13 fj13 => ∀ (u1 : Int32), j13 u1 = some o → fj13 u1 = some o) h ?_ ?_
  · intro u1 h
    refine eJN (fun j9 fj9 => ∀ (u2 : Int32), j9 u2 = some o → fj9 u2 = some o) h ?_ ?_
    · intro u2 h
      refine eJN (fun j3 fj3 => j3 = some o → fj3 = some o) h ?_ ?_
      · intro h
        exact eLeaf (θ := (fun (o : Int32) => o)) h rfl
      · intro j3 fj3 Jj3 h
        refine eIF h (fun c4 h => ?_) (fun c4 h => ?_)
        · exact Jj3 h
        · refine eIF h (fun c5 h => ?_) (fun c5 h => ?_)
          · refine eCV (kd_95 hL) (Nat.le_of_ble_eq_true rfl) (fun _ hv => E_X12_ageAt_ok hn hL hv) h (fun v6 h => ?_)
            refine eCV (kd_95 hL) (Nat.le_of_ble_eq_true rfl) (fun _ hv => E_X12_ageAt_ok hn hL hv) h (fun v7 h => ?_)
            refine eIF h (fun c8 h => ?_) (fun c8 h => ?_)
            · exact eLeaf (θ := (fun (o : Int32) => o)) h rfl
            · exact Jj3 h
          · exact eLeaf (θ := (fun (o : Int32) => o)) h rfl
    · intro j9 fj9 Jj9 h
      refine eIF h (fun c10 h => ?_) (fun c10 h => ?_)
      · exact Jj9 _ h
      · refine eGR (kd_95 hL) (Nat.le_of_ble_eq_true rfl) (rd_95_68 hL) ?_
        refine eRI (kd_144 hL) h (fun v11 h => ?_)
        refine eCS (fun _ hv => E_X12_bits_ok hn hL hv) h (fun v12 h => ?_)
        exact Jj9 _ h
  · intro j13 fj13 Jj13 h
    refine eIF h (fun c14 h => ?_) (fun c14 h => ?_)
    · exact Jj13 _ h
    · refine eGR (kd_95 hL) (Nat.le_of_ble_eq_true rfl) (rd_95_68 hL) ?_
      refine eRI (kd_144 hL) h (fun v15 h => ?_)
      refine eCS (fun _ hv => E_X12_bits_ok hn hL hv) h (fun v16 h => ?_)
      exact Jj13 _ h
-- OnlyUpwardModel.ranks(IZ)V
set_option maxRecDepth 100000 in
set_option maxHeartbeats 4000000 in
def E_X12_ranks (n : Nat) (S : ST) (a1 : Int32) (a2 : Int32) : Option ST :=
  (iter (fun (s1 : Int32 × ST) => (E_X12_has n s1.2 (1 : Int32)).bind fun v2 => if v2 ≤ s1.1 then some (.inr s1.2) else (iter (fun (s4 : Int32 × ST) => if s4.1 ≤ 0 then some (.inr (s4.1, s4.2)) else (rd (s4.2.1 154) 10 (s4.1 - (1 : Int32))).bind fun v6 => (E_X12_isAhead n s4.2 s1.1 v6 a1 a2).bind fun v7 => if v7 = 0 then some (.inr (s4.1, s4.2)) else (rd (s4.2.1 154) 10 (s4.1 - (1 : Int32))).bind fun v9 => (wr s4.2 154 10 s4.1 v9).bind fun S10 => some (.inl ((s4.1 + (-1 : Int32)), S10))) n (s1.1, s1.2)).bind fun (e4 : Int32 × ST) => (wr e4.2 154 10 e4.1 s1.1).bind fun S11 => some (.inl ((s1.1 + (1 : Int32)), S11))) n ((0 : Int32), S)).bind fun (e1 : ST) => some e1
set_option maxRecDepth 100000 in
set_option maxHeartbeats 4000000 in
theorem E_X12_ranks_ok {n : Nat} (hn : 30000 ≤ n) {K : AK} {R : Nat → Nat → Option Nat} {S : ST} {a1 : Int32} {a2 : Int32} {tz en : Nat} (hL : Lay K R tz en) {o : ST} (h : E_X12_ranks n S a1 a2 = some o) : F_X12_ranks n (mkM K R S) 95 a1 a2 = some (mkM K R o) := by
  unfold E_X12_ranks at h
  unfold F_X12_ranks
  refine eLP (fun (s1 : Int32 × ST) => (s1.1, mkM K R s1.2)) (fun (e1 : ST) => mkM K R e1) h rfl ?_ ?_
  · intro s1 x1 h
    refine eCV (kd_95 hL) (Nat.le_of_ble_eq_true rfl) (fun _ hv => E_X12_has_ok hn hL hv) h (fun v2 h => ?_)
    refine eIF h (fun c3 h => ?_) (fun c3 h => ?_)
    · exact eLeaf (θ := (Sum.map (fun (s1 : Int32 × ST) => (s1.1, mkM K R s1.2)) (fun (e1 : ST) => mkM K R e1))) h rfl
    · refine eLP (fun (s4 : Int32 × ST) => (s4.1, mkM K R s4.2)) (fun (e4 : Int32 × ST) => (e4.1, mkM K R e4.2)) h rfl ?_ ?_
      · intro s4 x4 h
        refine eIF h (fun c5 h => ?_) (fun c5 h => ?_)
        · exact eLeaf (θ := (Sum.map (fun (s4 : Int32 × ST) => (s4.1, mkM K R s4.2)) (fun (e4 : Int32 × ST) => (e4.1, mkM K R e4.2)))) h rfl
        · refine eGR (kd_95 hL) (Nat.le_of_ble_eq_true rfl) (rd_95_81 hL) ?_
          refine eRI (kd_154 hL) h (fun v6 h => ?_)
          refine eCV (kd_95 hL) (Nat.le_of_ble_eq_true rfl) (fun _ hv => E_X12_isAhead_ok hn hL hv) h (fun v7 h => ?_)
          refine eIF h (fun c8 h => ?_) (fun c8 h => ?_)
          · exact eLeaf (θ := (Sum.map (fun (s4 : Int32 × ST) => (s4.1, mkM K R s4.2)) (fun (e4 : Int32 × ST) => (e4.1, mkM K R e4.2)))) h rfl
          · refine eGR (kd_95 hL) (Nat.le_of_ble_eq_true rfl) (rd_95_81 hL) ?_
            refine eGR (kd_95 hL) (Nat.le_of_ble_eq_true rfl) (rd_95_81 hL) ?_
            refine eRI (kd_154 hL) h (fun v9 h => ?_)
            refine eWI (kd_154 hL) (Nat.le_of_ble_eq_true rfl) h (fun S10 h => ?_)
            exact eLeaf (θ := (Sum.map (fun (s4 : Int32 × ST) => (s4.1, mkM K R s4.2)) (fun (e4 : Int32 × ST) => (e4.1, mkM K R e4.2)))) h rfl
      · intro e4 h
        refine eGR (kd_95 hL) (Nat.le_of_ble_eq_true rfl) (rd_95_81 hL) ?_
        refine eWI (kd_154 hL) (Nat.le_of_ble_eq_true rfl) h (fun S11 h => ?_)
        exact eLeaf (θ := (Sum.map (fun (s1 : Int32 × ST) => (s1.1, mkM K R s1.2)) (fun (e1 : ST) => mkM K R e1))) h rfl
  · intro e1 h
    exact eLeaf (θ := (fun (o : ST) => (mkM K R o))) h rfl
-- OnlyUpwardModel.rank(II)I
set_option maxRecDepth 100000 in
set_option maxHeartbeats 4000000 in
def E_X12_rank (n : Nat) (S : ST) (a1 : Int32) (a2 : Int32) : Option (Int32 × ST) :=
  (E_X12_isEnd n S a1).bind fun v1 => if v1 = 0 then some ((-1 : Int32), S) else (E_X12_isPerson n S a2).bind fun v3 => if v3 = 0 then some ((-1 : Int32), S) else (E_X12_goesAsTold n S ).bind fun S6 => (E_X12_ranks n S6 a1 (1 : Int32)).bind fun S8 => (rd (S8.1 154) 10 a2).bind fun v9 => some (v9, S8)
set_option maxRecDepth 100000 in
set_option maxHeartbeats 4000000 in
theorem E_X12_rank_ok {n : Nat} (hn : 30000 ≤ n) {K : AK} {R : Nat → Nat → Option Nat} {S : ST} {a1 : Int32} {a2 : Int32} {tz en : Nat} (hL : Lay K R tz en) {o : (Int32 × ST)} (h : E_X12_rank n S a1 a2 = some o) : F_X12_rank n (mkM K R S) 95 a1 a2 = some (o.1, mkM K R o.2) := by
  unfold E_X12_rank at h
  unfold F_X12_rank
  refine eCS (fun _ hv => E_X12_isEnd_ok hn hL hv) h (fun v1 h => ?_)
  refine eIF h (fun c2 h => ?_) (fun c2 h => ?_)
  · exact eLeaf (θ := (fun (o : (Int32 × ST)) => (o.1, mkM K R o.2))) h rfl
  · refine eCV (kd_95 hL) (Nat.le_of_ble_eq_true rfl) (fun _ hv => E_X12_isPerson_ok hn hL hv) h (fun v3 h => ?_)
    refine eIF h (fun c4 h => ?_) (fun c4 h => ?_)
    · exact eLeaf (θ := (fun (o : (Int32 × ST)) => (o.1, mkM K R o.2))) h rfl
    · refine eCwV (kd_95 hL) (Nat.le_of_ble_eq_true rfl) (fun _ hv => E_X12_goesAsTold_ok hn hL hv) h (fun S6 h => ?_)
      refine eCwV (kd_95 hL) (Nat.le_of_ble_eq_true rfl) (fun _ hv => E_X12_ranks_ok hn hL hv) h (fun S8 h => ?_)
      refine eGR (kd_95 hL) (Nat.le_of_ble_eq_true rfl) (rd_95_81 hL) ?_
      refine eRI (kd_154 hL) h (fun v9 h => ?_)
      exact eLeaf (θ := (fun (o : (Int32 × ST)) => (o.1, mkM K R o.2))) h rfl
-- OnlyUpwardModel.share(III)I
set_option maxRecDepth 100000 in
set_option maxHeartbeats 4000000 in
def E_X12_share (n : Nat) (S : ST) (a1 : Int32) (a2 : Int32) (a3 : Int32) : Option (Int32 × ST) :=
  (E_X12_isEnd n S a1).bind fun v1 => if v1 = 0 then some ((-1 : Int32), S) else (E_X12_in n S a2 (0 : Int32) (10 : Int32)).bind fun v3 => if v3 = 0 then some ((-1 : Int32), S) else (E_X12_in n S a3 (0 : Int32) (1 : Int32)).bind fun v5 => if v5 = 0 then some ((-1 : Int32), S) else (E_X12_goesAsTold n S ).bind fun S8 => (E_X12_ranks n S8 (0 : Int32) (0 : Int32)).bind fun S10 => (iter (fun (s11 : Int32 × Int32) => (E_X12_has n S10 (1 : Int32)).bind fun v12 => if v12 ≤ s11.2 then some (.inr s11.1) else jn (fun (u14 : Int32) => some (.inl (u14, (s11.2 + (1 : Int32))))) fun j15 => jn ((rd (S10.1 154) 10 s11.2).bind fun v16 => (rd (S10.1 144) 250 (((10 : Int32) * a1) + v16)).bind fun v17 => (E_X12_bits n S10 v17).bind fun v18 => j15 (s11.1 + v18)) fun j19 => if a3 = (1 : Int32) then j19 else if a2 ≤ s11.2 then j15 s11.1 else j19) n ((0 : Int32), (0 : Int32))).bind fun (e11 : Int32) => some (e11, S10)
set_option maxRecDepth 100000 in
set_option maxHeartbeats 4000000 in
theorem E_X12_share_ok {n : Nat} (hn : 30000 ≤ n) {K : AK} {R : Nat → Nat → Option Nat} {S : ST} {a1 : Int32} {a2 : Int32} {a3 : Int32} {tz en : Nat} (hL : Lay K R tz en) {o : (Int32 × ST)} (h : E_X12_share n S a1 a2 a3 = some o) : F_X12_share n (mkM K R S) 95 a1 a2 a3 = some (o.1, mkM K R o.2) := by
  unfold E_X12_share at h
  unfold F_X12_share
  refine eCS (fun _ hv => E_X12_isEnd_ok hn hL hv) h (fun v1 h => ?_)
  refine eIF h (fun c2 h => ?_) (fun c2 h => ?_)
  · exact eLeaf (θ := (fun (o : (Int32 × ST)) => (o.1, mkM K R o.2))) h rfl
  · refine eCS (fun _ hv => E_X12_in_ok hn hL hv) h (fun v3 h => ?_)
    refine eIF h (fun c4 h => ?_) (fun c4 h => ?_)
    · exact eLeaf (θ := (fun (o : (Int32 × ST)) => (o.1, mkM K R o.2))) h rfl
    · refine eCS (fun _ hv => E_X12_in_ok hn hL hv) h (fun v5 h => ?_)
      refine eIF h (fun c6 h => ?_) (fun c6 h => ?_)
      · exact eLeaf (θ := (fun (o : (Int32 × ST)) => (o.1, mkM K R o.2))) h rfl
      · refine eCwV (kd_95 hL) (Nat.le_of_ble_eq_true rfl) (fun _ hv => E_X12_goesAsTold_ok hn hL hv) h (fun S8 h => ?_)
        refine eCwV (kd_95 hL) (Nat.le_of_ble_eq_true rfl) (fun _ hv => E_X12_ranks_ok hn hL hv) h (fun S10 h => ?_)
        refine eLP (fun (s11 : Int32 × Int32) => s11) (fun (e11 : Int32) => e11) h rfl ?_ ?_
        · intro s11 x11 h
          refine eCV (kd_95 hL) (Nat.le_of_ble_eq_true rfl) (fun _ hv => E_X12_has_ok hn hL hv) h (fun v12 h => ?_)
          refine eIF h (fun c13 h => ?_) (fun c13 h => ?_)
          · exact eLeaf (θ := (Sum.map (fun (s11 : Int32 × Int32) => s11) (fun (e11 : Int32) => e11))) h rfl
          · refine eJN (fun j15 fj15 => ∀ (u14 : Int32), j15 u14 = some x11 → fj15 u14 = some (Sum.map (fun (s11 : Int32 × Int32) => s11) (fun (e11 : Int32) => e11) x11)) h ?_ ?_
            · intro u14 h
              exact eLeaf (θ := (Sum.map (fun (s11 : Int32 × Int32) => s11) (fun (e11 : Int32) => e11))) h rfl
            · intro j15 fj15 Jj15 h
              refine eJN (fun j19 fj19 => j19 = some x11 → fj19 = some (Sum.map (fun (s11 : Int32 × Int32) => s11) (fun (e11 : Int32) => e11) x11)) h ?_ ?_
              · intro h
                refine eGR (kd_95 hL) (Nat.le_of_ble_eq_true rfl) (rd_95_68 hL) ?_
                refine eGR (kd_95 hL) (Nat.le_of_ble_eq_true rfl) (rd_95_81 hL) ?_
                refine eRI (kd_154 hL) h (fun v16 h => ?_)
                refine eRI (kd_144 hL) h (fun v17 h => ?_)
                refine eCS (fun _ hv => E_X12_bits_ok hn hL hv) h (fun v18 h => ?_)
                exact Jj15 _ h
              · intro j19 fj19 Jj19 h
                refine eIF h (fun c20 h => ?_) (fun c20 h => ?_)
                · exact Jj19 h
                · refine eIF h (fun c21 h => ?_) (fun c21 h => ?_)
                  · exact Jj15 _ h
                  · exact Jj19 h
        · intro e11 h
          exact eLeaf (θ := (fun (o : (Int32 × ST)) => (o.1, mkM K R o.2))) h rfl
-- OnlyUpwardModel.gain(III)I
set_option maxRecDepth 100000 in
set_option maxHeartbeats 4000000 in
def E_X12_gain (n : Nat) (S : ST) (a1 : Int32) (a2 : Int32) (a3 : Int32) : Option Int32 :=
  (iter (fun (s1 : Int32 × Int32) => (E_X12_has n S (6 : Int32)).bind fun v2 => if v2 ≤ s1.2 then some (.inr s1.1) else (rd (S.1 119) 24 (((12 : Int32) * (S.1 95 18)) + s1.2)).bind fun v4 => (rd (S.1 120) 24 (((12 : Int32) * (S.1 95 18)) + s1.2)).bind fun v5 => jn (fun (u6 : Int32) => some (.inl (u6, (s1.2 + (1 : Int32))))) fun j7 => if v5 = a3 then (rd (S.1 121) 24 (((12 : Int32) * (S.1 95 18)) + s1.2)).bind fun v9 => if v9 ≤ a2 then j7 s1.1 else if ((a1 >>> (v4 &&& 31)) &&& (1 : Int32)) = 0 then j7 s1.1 else (rd (S.1 144) 250 ((((10 : Int32) * a2) + (10 : Int32)) + v4)).bind fun v12 => if ((v12 >>> (a3 &&& 31)) &&& (1 : Int32)) = 0 then (E_X12_worthOfMust n S s1.2).bind fun v14 => j7 (s1.1 + v14) else j7 s1.1 else j7 s1.1) n ((0 : Int32), (0 : Int32))).bind fun (e1 : Int32) => some e1
set_option maxRecDepth 100000 in
set_option maxHeartbeats 4000000 in
theorem E_X12_gain_ok {n : Nat} (hn : 30000 ≤ n) {K : AK} {R : Nat → Nat → Option Nat} {S : ST} {a1 : Int32} {a2 : Int32} {a3 : Int32} {tz en : Nat} (hL : Lay K R tz en) {o : Int32} (h : E_X12_gain n S a1 a2 a3 = some o) : F_X12_gain n (mkM K R S) 95 a1 a2 a3 = some o := by
  unfold E_X12_gain at h
  unfold F_X12_gain
  refine eLP (fun (s1 : Int32 × Int32) => s1) (fun (e1 : Int32) => e1) h rfl ?_ ?_
  · intro s1 x1 h
    refine eCV (kd_95 hL) (Nat.le_of_ble_eq_true rfl) (fun _ hv => E_X12_has_ok hn hL hv) h (fun v2 h => ?_)
    refine eIF h (fun c3 h => ?_) (fun c3 h => ?_)
    · exact eLeaf (θ := (Sum.map (fun (s1 : Int32 × Int32) => s1) (fun (e1 : Int32) => e1))) h rfl
    · refine eGI (kd_95 hL) (Nat.le_of_ble_eq_true rfl) ?_
      refine eGR (kd_95 hL) (Nat.le_of_ble_eq_true rfl) (rd_95_37 hL) ?_
      refine eRI (kd_119 hL) h (fun v4 h => ?_)
      refine eGR (kd_95 hL) (Nat.le_of_ble_eq_true rfl) (rd_95_38 hL) ?_
      refine eRI (kd_120 hL) h (fun v5 h => ?_)
      refine eJN (fun j7 fj7 => ∀ (u6 : Int32), j7 u6 = some x1 → fj7 u6 = some (Sum.map (fun (s1 : Int32 × Int32) => s1) (fun (e1 : Int32) => e1) x1)) h ?_ ?_
      · intro u6 h
        exact eLeaf (θ := (Sum.map (fun (s1 : Int32 × Int32) => s1) (fun (e1 : Int32) => e1))) h rfl
      · intro j7 fj7 Jj7 h
        refine eIF h (fun c8 h => ?_) (fun c8 h => ?_)
        · refine eGR (kd_95 hL) (Nat.le_of_ble_eq_true rfl) (rd_95_39 hL) ?_
          refine eRI (kd_121 hL) h (fun v9 h => ?_)
          refine eIF h (fun c10 h => ?_) (fun c10 h => ?_)
          · exact Jj7 _ h
          · refine eIF h (fun c11 h => ?_) (fun c11 h => ?_)
            · exact Jj7 _ h
            · refine eGR (kd_95 hL) (Nat.le_of_ble_eq_true rfl) (rd_95_68 hL) ?_
              refine eRI (kd_144 hL) h (fun v12 h => ?_)
              refine eIF h (fun c13 h => ?_) (fun c13 h => ?_)
              · refine eCV (kd_95 hL) (Nat.le_of_ble_eq_true rfl) (fun _ hv => E_X12_worthOfMust_ok hn hL hv) h (fun v14 h => ?_)
                exact Jj7 _ h
              · exact Jj7 _ h
        · exact Jj7 _ h
  · intro e1 h
    exact eLeaf (θ := (fun (o : Int32) => o)) h rfl
-- OnlyUpwardModel.offers(IIII)V
set_option maxRecDepth 100000 in
set_option maxHeartbeats 4000000 in
def E_X12_offers (n : Nat) (S : ST) (a1 : Int32) (a2 : Int32) (a3 : Int32) (a4 : Int32) : Option ST :=
  (E_X12_gain n S a1 a2 a3).bind fun v1 => if (S.1 95 84) < v1 then lets (upI S 95 84 v1) fun (S3 : ST) => lets (upI S3 95 85 a1) fun (S4 : ST) => lets (upI S4 95 86 a3) fun (S5 : ST) => lets (upI S5 95 87 a4) fun (S6 : ST) => some S6 else some S
set_option maxRecDepth 100000 in
set_option maxHeartbeats 4000000 in
theorem E_X12_offers_ok {n : Nat} (hn : 30000 ≤ n) {K : AK} {R : Nat → Nat → Option Nat} {S : ST} {a1 : Int32} {a2 : Int32} {a3 : Int32} {a4 : Int32} {tz en : Nat} (hL : Lay K R tz en) {o : ST} (h : E_X12_offers n S a1 a2 a3 a4 = some o) : F_X12_offers n (mkM K R S) 95 a1 a2 a3 a4 = some (mkM K R o) := by
  unfold E_X12_offers at h
  unfold F_X12_offers
  refine eCV (kd_95 hL) (Nat.le_of_ble_eq_true rfl) (fun _ hv => E_X12_gain_ok hn hL hv) h (fun v1 h => ?_)
  refine eGI (kd_95 hL) (Nat.le_of_ble_eq_true rfl) ?_
  refine eIF h (fun c2 h => ?_) (fun c2 h => ?_)
  · refine ePI (kd_95 hL) (Nat.le_of_ble_eq_true rfl) h (fun S3 h => ?_)
    refine ePI (kd_95 hL) (Nat.le_of_ble_eq_true rfl) h (fun S4 h => ?_)
    refine ePI (kd_95 hL) (Nat.le_of_ble_eq_true rfl) h (fun S5 h => ?_)
    refine ePI (kd_95 hL) (Nat.le_of_ble_eq_true rfl) h (fun S6 h => ?_)
    exact eLeaf (θ := (fun (o : ST) => (mkM K R o))) h rfl
  · exact eLeaf (θ := (fun (o : ST) => (mkM K R o))) h rfl
-- OnlyUpwardModel.tellsMost(II)V
set_option maxRecDepth 100000 in
set_option maxHeartbeats 4000000 in
def E_X12_tellsMost (n : Nat) (S : ST) (a1 : Int32) (a2 : Int32) : Option ST :=
  (E_X12_placeOf n S a1 a2).bind fun v1 => if 0 ≤ v1 then lets (upI S 95 84 (0 : Int32)) fun (S3 : ST) => (iter (fun (s4 : Int32 × ST) => (E_X12_has n s4.2 (1 : Int32)).bind fun v5 => if v5 ≤ s4.1 then some (.inr s4.2) else (E_X12_mayBy n s4.2 a1 s4.1 a2 (0 : Int32) (0 : Int32)).bind fun v7 => jn (fun (S8 : ST) => some (.inl ((s4.1 + (1 : Int32)), S8))) fun j9 => if v7.1 = 0 then j9 v7.2 else (iter (fun (s11 : Int32 × ST) => (E_X12_has n s11.2 (2 : Int32)).bind fun v12 => if v12 ≤ s11.1 then some (.inr s11.2) else (E_X12_knowsIt n s11.2 a1 a2 s11.1).bind fun v14 => jn (fun (S15 : ST) => some (.inl ((s11.1 + (1 : Int32)), S15))) fun j16 => if v14 = 0 then j16 s11.2 else (E_X12_earshotOf n s11.2 v1 a2).bind fun v18 => (E_X12_offers n s11.2 v18 a2 s11.1 (1 : Int32)).bind fun S20 => j16 S20) n ((0 : Int32), v7.2)).bind fun (e11 : ST) => j9 e11) n ((0 : Int32), S3)).bind fun (e4 : ST) => (iter (fun (s21 : Int32 × ST) => (E_X12_has n s21.2 (7 : Int32)).bind fun v22 => if v22 ≤ s21.1 then some (.inr s21.2) else (rd (s21.2.1 122) 12 (((6 : Int32) * (s21.2.1 95 18)) + s21.1)).bind fun v24 => (E_X12_knowsIt n s21.2 a1 a2 v24).bind fun v25 => jn (fun (S26 : ST) => some (.inl ((s21.1 + (1 : Int32)), S26))) fun j27 => if v25 = 0 then j27 s21.2 else (E_X12_crowdAt n s21.2 v1 a2).bind fun v29 => (rd (s21.2.1 123) 12 (((6 : Int32) * (s21.2.1 95 18)) + s21.1)).bind fun v30 => (E_X12_offers n s21.2 v29 a2 v24 v30).bind fun S32 => j27 S32) n ((0 : Int32), e4)).bind fun (e21 : ST) => if (e21.1 95 84) = 0 then some e21 else (E_X12_learn n e21 (e21.1 95 85) a2 ((1 : Int32) <<< ((e21.1 95 86) &&& 31))).bind fun S35 => lets (upI S35 95 82 ((S35.1 95 82) + (S35.1 95 87))) fun (S36 : ST) => lets (upI S36 95 83 ((S36.1 95 83) + (1 : Int32))) fun (S37 : ST) => some S37 else some S
set_option maxRecDepth 100000 in
set_option maxHeartbeats 4000000 in
theorem E_X12_tellsMost_ok {n : Nat} (hn : 30000 ≤ n) {K : AK} {R : Nat → Nat → Option Nat} {S : ST} {a1 : Int32} {a2 : Int32} {tz en : Nat} (hL : Lay K R tz en) {o : ST} (h : E_X12_tellsMost n S a1 a2 = some o) : F_X12_tellsMost n (mkM K R S) 95 a1 a2 = some (mkM K R o) := by
  unfold E_X12_tellsMost at h
  unfold F_X12_tellsMost
  refine eCV (kd_95 hL) (Nat.le_of_ble_eq_true rfl) (fun _ hv => E_X12_placeOf_ok hn hL hv) h (fun v1 h => ?_)
  refine eIF h (fun c2 h => ?_) (fun c2 h => ?_)
  · refine ePI (kd_95 hL) (Nat.le_of_ble_eq_true rfl) h (fun S3 h => ?_)
    refine eLP (fun (s4 : Int32 × ST) => (s4.1, mkM K R s4.2)) (fun (e4 : ST) => mkM K R e4) h rfl ?_ ?_
    · intro s4 x4 h
      refine eCV (kd_95 hL) (Nat.le_of_ble_eq_true rfl) (fun _ hv => E_X12_has_ok hn hL hv) h (fun v5 h => ?_)
      refine eIF h (fun c6 h => ?_) (fun c6 h => ?_)
      · exact eLeaf (θ := (Sum.map (fun (s4 : Int32 × ST) => (s4.1, mkM K R s4.2)) (fun (e4 : ST) => mkM K R e4))) h rfl
      · refine eCwiV (kd_95 hL) (Nat.le_of_ble_eq_true rfl) (fun _ hv => E_X12_mayBy_ok hn hL hv) h (fun v7 h => ?_)
        refine eJN (fun j9 fj9 => ∀ (S8 : ST), j9 S8 = some x4 → fj9 (mkM K R S8) = some (Sum.map (fun (s4 : Int32 × ST) => (s4.1, mkM K R s4.2)) (fun (e4 : ST) => mkM K R e4) x4)) h ?_ ?_
        · intro S8 h
          exact eLeaf (θ := (Sum.map (fun (s4 : Int32 × ST) => (s4.1, mkM K R s4.2)) (fun (e4 : ST) => mkM K R e4))) h rfl
        · intro j9 fj9 Jj9 h
          refine eIF h (fun c10 h => ?_) (fun c10 h => ?_)
          · exact Jj9 _ h
          · refine eLP (fun (s11 : Int32 × ST) => (s11.1, mkM K R s11.2)) (fun (e11 : ST) => mkM K R e11) h rfl ?_ ?_
            · intro s11 x11 h
              refine eCV (kd_95 hL) (Nat.le_of_ble_eq_true rfl) (fun _ hv => E_X12_has_ok hn hL hv) h (fun v12 h => ?_)
              refine eIF h (fun c13 h => ?_) (fun c13 h => ?_)
              · exact eLeaf (θ := (Sum.map (fun (s11 : Int32 × ST) => (s11.1, mkM K R s11.2)) (fun (e11 : ST) => mkM K R e11))) h rfl
              · refine eCV (kd_95 hL) (Nat.le_of_ble_eq_true rfl) (fun _ hv => E_X12_knowsIt_ok hn hL hv) h (fun v14 h => ?_)
                refine eJN (fun j16 fj16 => ∀ (S15 : ST), j16 S15 = some x11 → fj16 (mkM K R S15) = some (Sum.map (fun (s11 : Int32 × ST) => (s11.1, mkM K R s11.2)) (fun (e11 : ST) => mkM K R e11) x11)) h ?_ ?_
                · intro S15 h
                  exact eLeaf (θ := (Sum.map (fun (s11 : Int32 × ST) => (s11.1, mkM K R s11.2)) (fun (e11 : ST) => mkM K R e11))) h rfl
                · intro j16 fj16 Jj16 h
                  refine eIF h (fun c17 h => ?_) (fun c17 h => ?_)
                  · exact Jj16 _ h
                  · refine eCV (kd_95 hL) (Nat.le_of_ble_eq_true rfl) (fun _ hv => E_X12_earshotOf_ok hn hL hv) h (fun v18 h => ?_)
                    refine eCwV (kd_95 hL) (Nat.le_of_ble_eq_true rfl) (fun _ hv => E_X12_offers_ok hn hL hv) h (fun S20 h => ?_)
                    exact Jj16 _ h
            · intro e11 h
              exact Jj9 _ h
    · intro e4 h
      refine eLP (fun (s21 : Int32 × ST) => (s21.1, mkM K R s21.2)) (fun (e21 : ST) => mkM K R e21) h rfl ?_ ?_
      · intro s21 x21 h
        refine eCV (kd_95 hL) (Nat.le_of_ble_eq_true rfl) (fun _ hv => E_X12_has_ok hn hL hv) h (fun v22 h => ?_)
        refine eIF h (fun c23 h => ?_) (fun c23 h => ?_)
        · exact eLeaf (θ := (Sum.map (fun (s21 : Int32 × ST) => (s21.1, mkM K R s21.2)) (fun (e21 : ST) => mkM K R e21))) h rfl
        · refine eGR (kd_95 hL) (Nat.le_of_ble_eq_true rfl) (rd_95_40 hL) ?_
          refine eGI (kd_95 hL) (Nat.le_of_ble_eq_true rfl) ?_
          refine eRI (kd_122 hL) h (fun v24 h => ?_)
          refine eCV (kd_95 hL) (Nat.le_of_ble_eq_true rfl) (fun _ hv => E_X12_knowsIt_ok hn hL hv) h (fun v25 h => ?_)
          refine eJN (fun j27 fj27 => ∀ (S26 : ST), j27 S26 = some x21 → fj27 (mkM K R S26) = some (Sum.map (fun (s21 : Int32 × ST) => (s21.1, mkM K R s21.2)) (fun (e21 : ST) => mkM K R e21) x21)) h ?_ ?_
          · intro S26 h
            exact eLeaf (θ := (Sum.map (fun (s21 : Int32 × ST) => (s21.1, mkM K R s21.2)) (fun (e21 : ST) => mkM K R e21))) h rfl
          · intro j27 fj27 Jj27 h
            refine eIF h (fun c28 h => ?_) (fun c28 h => ?_)
            · exact Jj27 _ h
            · refine eCV (kd_95 hL) (Nat.le_of_ble_eq_true rfl) (fun _ hv => E_X12_crowdAt_ok hn hL hv) h (fun v29 h => ?_)
              refine eGR (kd_95 hL) (Nat.le_of_ble_eq_true rfl) (rd_95_41 hL) ?_
              refine eGI (kd_95 hL) (Nat.le_of_ble_eq_true rfl) ?_
              refine eRI (kd_123 hL) h (fun v30 h => ?_)
              refine eCwV (kd_95 hL) (Nat.le_of_ble_eq_true rfl) (fun _ hv => E_X12_offers_ok hn hL hv) h (fun S32 h => ?_)
              exact Jj27 _ h
      · intro e21 h
        refine eGI (kd_95 hL) (Nat.le_of_ble_eq_true rfl) ?_
        refine eIF h (fun c33 h => ?_) (fun c33 h => ?_)
        · exact eLeaf (θ := (fun (o : ST) => (mkM K R o))) h rfl
        · refine eGI (kd_95 hL) (Nat.le_of_ble_eq_true rfl) ?_
          refine eGI (kd_95 hL) (Nat.le_of_ble_eq_true rfl) ?_
          refine eCwV (kd_95 hL) (Nat.le_of_ble_eq_true rfl) (fun _ hv => E_X12_learn_ok hn hL hv) h (fun S35 h => ?_)
          refine eGI (kd_95 hL) (Nat.le_of_ble_eq_true rfl) ?_
          refine eGI (kd_95 hL) (Nat.le_of_ble_eq_true rfl) ?_
          refine ePI (kd_95 hL) (Nat.le_of_ble_eq_true rfl) h (fun S36 h => ?_)
          refine eGI (kd_95 hL) (Nat.le_of_ble_eq_true rfl) ?_
          refine ePI (kd_95 hL) (Nat.le_of_ble_eq_true rfl) h (fun S37 h => ?_)
          exact eLeaf (θ := (fun (o : ST) => (mkM K R o))) h rfl
  · exact eLeaf (θ := (fun (o : ST) => (mkM K R o))) h rfl
-- OnlyUpwardModel.rules()V
set_option maxRecDepth 100000 in
set_option maxHeartbeats 4000000 in
def E_X12_rules (n : Nat) (S : ST) : Option ST :=
  lets (upI S 95 61 (0 : Int32)) fun (S1 : ST) => (E_X12_startsKnowing n S1 ).bind fun S3 => lets (upI S3 95 82 (0 : Int32)) fun (S4 : ST) => lets (upI S4 95 83 (0 : Int32)) fun (S5 : ST) => (iter (fun (s6 : Int32 × ST) => if (24 : Int32) ≤ s6.1 then some (.inr s6.2) else (iter (fun (s8 : Int32 × ST) => (E_X12_has n s8.2 (1 : Int32)).bind fun v9 => if v9 ≤ s8.1 then some (.inr s8.2) else (rd (s8.2.1 144) 250 ((((10 : Int32) * s6.1) + (10 : Int32)) + s8.1)).bind fun v11 => (rd (s8.2.1 144) 250 (((10 : Int32) * s6.1) + s8.1)).bind fun v12 => (wr s8.2 144 250 ((((10 : Int32) * s6.1) + (10 : Int32)) + s8.1) (v11 ||| v12)).bind fun S13 => some (.inl ((s8.1 + (1 : Int32)), S13))) n ((0 : Int32), s6.2)).bind fun (e8 : ST) => (E_X12_ranks n e8 s6.1 (0 : Int32)).bind fun S15 => (iter (fun (s16 : Int32 × ST) => (E_X12_has n s16.2 (1 : Int32)).bind fun v17 => if v17 ≤ s16.1 then some (.inr s16.2) else (rd (s16.2.1 154) 10 s16.1).bind fun v19 => (E_X12_tellsMost n s16.2 v19 s6.1).bind fun S21 => some (.inl ((s16.1 + (1 : Int32)), S21))) n ((0 : Int32), S15)).bind fun (e16 : ST) => some (.inl ((s6.1 + (1 : Int32)), e16))) n ((0 : Int32), S5)).bind fun (e6 : ST) => some e6
set_option maxRecDepth 100000 in
set_option maxHeartbeats 4000000 in
theorem E_X12_rules_ok {n : Nat} (hn : 30000 ≤ n) {K : AK} {R : Nat → Nat → Option Nat} {S : ST} {tz en : Nat} (hL : Lay K R tz en) {o : ST} (h : E_X12_rules n S  = some o) : F_X12_rules n (mkM K R S) 95 = some (mkM K R o) := by
  unfold E_X12_rules at h
  unfold F_X12_rules
  refine ePI (kd_95 hL) (Nat.le_of_ble_eq_true rfl) h (fun S1 h => ?_)
  refine eCwV (kd_95 hL) (Nat.le_of_ble_eq_true rfl) (fun _ hv => E_X12_startsKnowing_ok hn hL hv) h (fun S3 h => ?_)
  refine ePI (kd_95 hL) (Nat.le_of_ble_eq_true rfl) h (fun S4 h => ?_)
  refine ePI (kd_95 hL) (Nat.le_of_ble_eq_true rfl) h (fun S5 h => ?_)
  refine eLP (fun (s6 : Int32 × ST) => (s6.1, mkM K R s6.2)) (fun (e6 : ST) => mkM K R e6) h rfl ?_ ?_
  · intro s6 x6 h
    refine eIF h (fun c7 h => ?_) (fun c7 h => ?_)
    · exact eLeaf (θ := (Sum.map (fun (s6 : Int32 × ST) => (s6.1, mkM K R s6.2)) (fun (e6 : ST) => mkM K R e6))) h rfl
    · refine eLP (fun (s8 : Int32 × ST) => (s8.1, mkM K R s8.2)) (fun (e8 : ST) => mkM K R e8) h rfl ?_ ?_
      · intro s8 x8 h
        refine eCV (kd_95 hL) (Nat.le_of_ble_eq_true rfl) (fun _ hv => E_X12_has_ok hn hL hv) h (fun v9 h => ?_)
        refine eIF h (fun c10 h => ?_) (fun c10 h => ?_)
        · exact eLeaf (θ := (Sum.map (fun (s8 : Int32 × ST) => (s8.1, mkM K R s8.2)) (fun (e8 : ST) => mkM K R e8))) h rfl
        · refine eGR (kd_95 hL) (Nat.le_of_ble_eq_true rfl) (rd_95_68 hL) ?_
          refine eRI (kd_144 hL) h (fun v11 h => ?_)
          refine eGR (kd_95 hL) (Nat.le_of_ble_eq_true rfl) (rd_95_68 hL) ?_
          refine eRI (kd_144 hL) h (fun v12 h => ?_)
          refine eWI (kd_144 hL) (Nat.le_of_ble_eq_true rfl) h (fun S13 h => ?_)
          exact eLeaf (θ := (Sum.map (fun (s8 : Int32 × ST) => (s8.1, mkM K R s8.2)) (fun (e8 : ST) => mkM K R e8))) h rfl
      · intro e8 h
        refine eCwV (kd_95 hL) (Nat.le_of_ble_eq_true rfl) (fun _ hv => E_X12_ranks_ok hn hL hv) h (fun S15 h => ?_)
        refine eLP (fun (s16 : Int32 × ST) => (s16.1, mkM K R s16.2)) (fun (e16 : ST) => mkM K R e16) h rfl ?_ ?_
        · intro s16 x16 h
          refine eCV (kd_95 hL) (Nat.le_of_ble_eq_true rfl) (fun _ hv => E_X12_has_ok hn hL hv) h (fun v17 h => ?_)
          refine eIF h (fun c18 h => ?_) (fun c18 h => ?_)
          · exact eLeaf (θ := (Sum.map (fun (s16 : Int32 × ST) => (s16.1, mkM K R s16.2)) (fun (e16 : ST) => mkM K R e16))) h rfl
          · refine eGR (kd_95 hL) (Nat.le_of_ble_eq_true rfl) (rd_95_81 hL) ?_
            refine eRI (kd_154 hL) h (fun v19 h => ?_)
            refine eCwV (kd_95 hL) (Nat.le_of_ble_eq_true rfl) (fun _ hv => E_X12_tellsMost_ok hn hL hv) h (fun S21 h => ?_)
            exact eLeaf (θ := (Sum.map (fun (s16 : Int32 × ST) => (s16.1, mkM K R s16.2)) (fun (e16 : ST) => mkM K R e16))) h rfl
        · intro e16 h
          exact eLeaf (θ := (Sum.map (fun (s6 : Int32 × ST) => (s6.1, mkM K R s6.2)) (fun (e6 : ST) => mkM K R e6))) h rfl
  · intro e6 h
    exact eLeaf (θ := (fun (o : ST) => (mkM K R o))) h rfl
-- OnlyUpwardModel.rule(I)I
set_option maxRecDepth 100000 in
set_option maxHeartbeats 4000000 in
def E_X12_rule (n : Nat) (S : ST) (a1 : Int32) : Option (Int32 × ST) :=
  (E_X12_in n S a1 (0 : Int32) (2 : Int32)).bind fun v1 => if v1 = 0 then some ((-1 : Int32), S) else (E_X12_rules n S ).bind fun S4 => if a1 = 0 then (E_X12_harmNow n S4 ).bind fun v6 => some (v6, S4) else if a1 = (1 : Int32) then some ((S4.1 95 82), S4) else some ((S4.1 95 83), S4)
set_option maxRecDepth 100000 in
set_option maxHeartbeats 4000000 in
theorem E_X12_rule_ok {n : Nat} (hn : 30000 ≤ n) {K : AK} {R : Nat → Nat → Option Nat} {S : ST} {a1 : Int32} {tz en : Nat} (hL : Lay K R tz en) {o : (Int32 × ST)} (h : E_X12_rule n S a1 = some o) : F_X12_rule n (mkM K R S) 95 a1 = some (o.1, mkM K R o.2) := by
  unfold E_X12_rule at h
  unfold F_X12_rule
  refine eCS (fun _ hv => E_X12_in_ok hn hL hv) h (fun v1 h => ?_)
  refine eIF h (fun c2 h => ?_) (fun c2 h => ?_)
  · exact eLeaf (θ := (fun (o : (Int32 × ST)) => (o.1, mkM K R o.2))) h rfl
  · refine eCwV (kd_95 hL) (Nat.le_of_ble_eq_true rfl) (fun _ hv => E_X12_rules_ok hn hL hv) h (fun S4 h => ?_)
    refine eIF h (fun c5 h => ?_) (fun c5 h => ?_)
    · refine eCV (kd_95 hL) (Nat.le_of_ble_eq_true rfl) (fun _ hv => E_X12_harmNow_ok hn hL hv) h (fun v6 h => ?_)
      exact eLeaf (θ := (fun (o : (Int32 × ST)) => (o.1, mkM K R o.2))) h rfl
    · refine eIF h (fun c7 h => ?_) (fun c7 h => ?_)
      · refine eGI (kd_95 hL) (Nat.le_of_ble_eq_true rfl) ?_
        exact eLeaf (θ := (fun (o : (Int32 × ST)) => (o.1, mkM K R o.2))) h rfl
      · refine eGI (kd_95 hL) (Nat.le_of_ble_eq_true rfl) ?_
        exact eLeaf (θ := (fun (o : (Int32 × ST)) => (o.1, mkM K R o.2))) h rfl
-- OnlyUpwardModel.ruled(II)I
set_option maxRecDepth 100000 in
set_option maxHeartbeats 4000000 in
def E_X12_ruled (n : Nat) (S : ST) (a1 : Int32) (a2 : Int32) : Option (Int32 × ST) :=
  (E_X12_isPerson n S a1).bind fun v1 => if v1 = 0 then some ((-1 : Int32), S) else (E_X12_isEnd n S a2).bind fun v3 => if v3 = 0 then some ((-1 : Int32), S) else (E_X12_rules n S ).bind fun S6 => (rd (S6.1 144) 250 (((10 : Int32) * a2) + a1)).bind fun v7 => some (v7, S6)
set_option maxRecDepth 100000 in
set_option maxHeartbeats 4000000 in
theorem E_X12_ruled_ok {n : Nat} (hn : 30000 ≤ n) {K : AK} {R : Nat → Nat → Option Nat} {S : ST} {a1 : Int32} {a2 : Int32} {tz en : Nat} (hL : Lay K R tz en) {o : (Int32 × ST)} (h : E_X12_ruled n S a1 a2 = some o) : F_X12_ruled n (mkM K R S) 95 a1 a2 = some (o.1, mkM K R o.2) := by
  unfold E_X12_ruled at h
  unfold F_X12_ruled
  refine eCV (kd_95 hL) (Nat.le_of_ble_eq_true rfl) (fun _ hv => E_X12_isPerson_ok hn hL hv) h (fun v1 h => ?_)
  refine eIF h (fun c2 h => ?_) (fun c2 h => ?_)
  · exact eLeaf (θ := (fun (o : (Int32 × ST)) => (o.1, mkM K R o.2))) h rfl
  · refine eCS (fun _ hv => E_X12_isEnd_ok hn hL hv) h (fun v3 h => ?_)
    refine eIF h (fun c4 h => ?_) (fun c4 h => ?_)
    · exact eLeaf (θ := (fun (o : (Int32 × ST)) => (o.1, mkM K R o.2))) h rfl
    · refine eCwV (kd_95 hL) (Nat.le_of_ble_eq_true rfl) (fun _ hv => E_X12_rules_ok hn hL hv) h (fun S6 h => ?_)
      refine eGR (kd_95 hL) (Nat.le_of_ble_eq_true rfl) (rd_95_68 hL) ?_
      refine eRI (kd_144 hL) h (fun v7 h => ?_)
      exact eLeaf (θ := (fun (o : (Int32 × ST)) => (o.1, mkM K R o.2))) h rfl
-- OnlyUpwardModel.goesByLots(II)V
set_option maxRecDepth 100000 in
set_option maxHeartbeats 4000000 in
def E_X12_goesByLots (n : Nat) (S : ST) (a1 : Int32) (a2 : Int32) : Option ST :=
  lets (upI S 95 72 a1) fun (S1 : ST) => lets (upI S1 95 73 a2) fun (S2 : ST) => (E_X12_goes n S2 ).bind fun S4 => lets (upI S4 95 73 (-1 : Int32)) fun (S5 : ST) => some S5
set_option maxRecDepth 100000 in
set_option maxHeartbeats 4000000 in
theorem E_X12_goesByLots_ok {n : Nat} (hn : 30000 ≤ n) {K : AK} {R : Nat → Nat → Option Nat} {S : ST} {a1 : Int32} {a2 : Int32} {tz en : Nat} (hL : Lay K R tz en) {o : ST} (h : E_X12_goesByLots n S a1 a2 = some o) : F_X12_goesByLots n (mkM K R S) 95 a1 a2 = some (mkM K R o) := by
  unfold E_X12_goesByLots at h
  unfold F_X12_goesByLots
  refine ePI (kd_95 hL) (Nat.le_of_ble_eq_true rfl) h (fun S1 h => ?_)
  refine ePI (kd_95 hL) (Nat.le_of_ble_eq_true rfl) h (fun S2 h => ?_)
  refine eCwV (kd_95 hL) (Nat.le_of_ble_eq_true rfl) (fun _ hv => E_X12_goes_ok hn hL hv) h (fun S4 h => ?_)
  refine ePI (kd_95 hL) (Nat.le_of_ble_eq_true rfl) h (fun S5 h => ?_)
  exact eLeaf (θ := (fun (o : ST) => (mkM K R o))) h rfl
-- OnlyUpwardModel.goneNow()I
set_option maxRecDepth 100000 in
set_option maxHeartbeats 4000000 in
def E_X12_goneNow (n : Nat) (S : ST) : Option Int32 :=
  (iter (fun (s1 : Int32 × Int32 × Int32) => (E_X12_has n S (1 : Int32)).bind fun v2 => if v2 ≤ s1.2.2 then some (.inr (s1.1, s1.2.1)) else (rd (S.1 144) 250 ((240 : Int32) + s1.2.2)).bind fun v4 => (E_X12_isDead n S s1.2.2).bind fun v5 => jn (fun (u6 : Int32) => some (.inl ((s1.1 ||| v4), u6, (s1.2.2 + (1 : Int32))))) fun j7 => if v5 = 0 then (rd (S.1 144) 250 ((240 : Int32) + s1.2.2)).bind fun v9 => j7 (s1.2.1 ||| v9) else j7 s1.2.1) n ((0 : Int32), (0 : Int32), (0 : Int32))).bind fun (e1 : Int32 × Int32) => some (e1.1 &&& (e1.2 ^^^ (-1 : Int32)))
set_option maxRecDepth 100000 in
set_option maxHeartbeats 4000000 in
theorem E_X12_goneNow_ok {n : Nat} (hn : 30000 ≤ n) {K : AK} {R : Nat → Nat → Option Nat} {S : ST} {tz en : Nat} (hL : Lay K R tz en) {o : Int32} (h : E_X12_goneNow n S  = some o) : F_X12_goneNow n (mkM K R S) 95 = some o := by
  unfold E_X12_goneNow at h
  unfold F_X12_goneNow
  refine eLP (fun (s1 : Int32 × Int32 × Int32) => s1) (fun (e1 : Int32 × Int32) => e1) h rfl ?_ ?_
  · intro s1 x1 h
    refine eCV (kd_95 hL) (Nat.le_of_ble_eq_true rfl) (fun _ hv => E_X12_has_ok hn hL hv) h (fun v2 h => ?_)
    refine eIF h (fun c3 h => ?_) (fun c3 h => ?_)
    · exact eLeaf (θ := (Sum.map (fun (s1 : Int32 × Int32 × Int32) => s1) (fun (e1 : Int32 × Int32) => e1))) h rfl
    · refine eGR (kd_95 hL) (Nat.le_of_ble_eq_true rfl) (rd_95_68 hL) ?_
      refine eRI (kd_144 hL) h (fun v4 h => ?_)
      refine eCV (kd_95 hL) (Nat.le_of_ble_eq_true rfl) (fun _ hv => E_X12_isDead_ok hn hL hv) h (fun v5 h => ?_)
      refine eJN (fun j7 fj7 => ∀ (u6 : Int32), j7 u6 = some x1 → fj7 u6 = some (Sum.map (fun (s1 : Int32 × Int32 × Int32) => s1) (fun (e1 : Int32 × Int32) => e1) x1)) h ?_ ?_
      · intro u6 h
        exact eLeaf (θ := (Sum.map (fun (s1 : Int32 × Int32 × Int32) => s1) (fun (e1 : Int32 × Int32) => e1))) h rfl
      · intro j7 fj7 Jj7 h
        refine eIF h (fun c8 h => ?_) (fun c8 h => ?_)
        · refine eGR (kd_95 hL) (Nat.le_of_ble_eq_true rfl) (rd_95_68 hL) ?_
          refine eRI (kd_144 hL) h (fun v9 h => ?_)
          exact Jj7 _ h
        · exact Jj7 _ h
  · intro e1 h
    exact eLeaf (θ := (fun (o : Int32) => o)) h rfl
-- OnlyUpwardModel.day(III)I
set_option maxRecDepth 100000 in
set_option maxHeartbeats 4000000 in
def E_X12_day (n : Nat) (S : ST) (a1 : Int32) (a2 : Int32) (a3 : Int32) : Option (Int32 × ST) :=
  (E_X12_in n S a2 (0 : Int32) (100 : Int32)).bind fun v1 => if v1 = 0 then some ((-1 : Int32), S) else (E_X12_in n S a3 (0 : Int32) (3 : Int32)).bind fun v3 => if v3 = 0 then some ((-1 : Int32), S) else (E_X12_goesByLots n S a1 a2).bind fun S6 => jn (fun (u7 : Int32) => lets (upI S6 95 61 (0 : Int32)) fun (S8 : ST) => some (u7, S8)) fun j9 => if a3 = 0 then (E_X12_has n S6 (1 : Int32)).bind fun v11 => lets ((((1 : Int32) <<< (v11 &&& 31)) - (1 : Int32)) &&& ((S6.1 95 61) ^^^ (-1 : Int32))) fun (w12 : Int32) => j9 w12 else if a3 = (1 : Int32) then (E_X12_goneNow n S6 ).bind fun v14 => j9 v14 else if a3 = (2 : Int32) then (E_X12_harmNow n S6 ).bind fun v16 => j9 v16 else (iter (fun (s17 : Int32 × Int32) => if (S6.1 95 62) ≤ s17.2 then some (.inr s17.1) else (rd (S6.1 145) 30 s17.2).bind fun v19 => jn (fun (u20 : Int32) => some (.inl ((s17.1 + u20), (s17.2 + (1 : Int32))))) fun j21 => if v19 = 0 then j21 (1 : Int32) else j21 (0 : Int32)) n ((0 : Int32), (0 : Int32))).bind fun (e17 : Int32) => j9 e17
set_option maxRecDepth 100000 in
set_option maxHeartbeats 4000000 in
theorem E_X12_day_ok {n : Nat} (hn : 30000 ≤ n) {K : AK} {R : Nat → Nat → Option Nat} {S : ST} {a1 : Int32} {a2 : Int32} {a3 : Int32} {tz en : Nat} (hL : Lay K R tz en) {o : (Int32 × ST)} (h : E_X12_day n S a1 a2 a3 = some o) : F_X12_day n (mkM K R S) 95 a1 a2 a3 = some (o.1, mkM K R o.2) := by
  unfold E_X12_day at h
  unfold F_X12_day
  refine eCS (fun _ hv => E_X12_in_ok hn hL hv) h (fun v1 h => ?_)
  refine eIF h (fun c2 h => ?_) (fun c2 h => ?_)
  · exact eLeaf (θ := (fun (o : (Int32 × ST)) => (o.1, mkM K R o.2))) h rfl
  · refine eCS (fun _ hv => E_X12_in_ok hn hL hv) h (fun v3 h => ?_)
    refine eIF h (fun c4 h => ?_) (fun c4 h => ?_)
    · exact eLeaf (θ := (fun (o : (Int32 × ST)) => (o.1, mkM K R o.2))) h rfl
    · refine eCwV (kd_95 hL) (Nat.le_of_ble_eq_true rfl) (fun _ hv => E_X12_goesByLots_ok hn hL hv) h (fun S6 h => ?_)
      refine eJN (fun j9 fj9 => ∀ (u7 : Int32), j9 u7 = some o → fj9 u7 = some (o.1, mkM K R o.2)) h ?_ ?_
      · intro u7 h
        refine ePI (kd_95 hL) (Nat.le_of_ble_eq_true rfl) h (fun S8 h => ?_)
        exact eLeaf (θ := (fun (o : (Int32 × ST)) => (o.1, mkM K R o.2))) h rfl
      · intro j9 fj9 Jj9 h
        refine eIF h (fun c10 h => ?_) (fun c10 h => ?_)
        · refine eCV (kd_95 hL) (Nat.le_of_ble_eq_true rfl) (fun _ hv => E_X12_has_ok hn hL hv) h (fun v11 h => ?_)
          refine eGI (kd_95 hL) (Nat.le_of_ble_eq_true rfl) ?_
          refine eLT h (fun w12 h => ?_)
          exact Jj9 _ h
        · refine eIF h (fun c13 h => ?_) (fun c13 h => ?_)
          · refine eCV (kd_95 hL) (Nat.le_of_ble_eq_true rfl) (fun _ hv => E_X12_goneNow_ok hn hL hv) h (fun v14 h => ?_)
            exact Jj9 _ h
          · refine eIF h (fun c15 h => ?_) (fun c15 h => ?_)
            · refine eCV (kd_95 hL) (Nat.le_of_ble_eq_true rfl) (fun _ hv => E_X12_harmNow_ok hn hL hv) h (fun v16 h => ?_)
              exact Jj9 _ h
            · refine eLP (fun (s17 : Int32 × Int32) => s17) (fun (e17 : Int32) => e17) h rfl ?_ ?_
              · intro s17 x17 h
                refine eGI (kd_95 hL) (Nat.le_of_ble_eq_true rfl) ?_
                refine eIF h (fun c18 h => ?_) (fun c18 h => ?_)
                · exact eLeaf (θ := (Sum.map (fun (s17 : Int32 × Int32) => s17) (fun (e17 : Int32) => e17))) h rfl
                · refine eGR (kd_95 hL) (Nat.le_of_ble_eq_true rfl) (rd_95_69 hL) ?_
                  refine eRI (kd_145 hL) h (fun v19 h => ?_)
                  refine eJN (fun j21 fj21 => ∀ (u20 : Int32), j21 u20 = some x17 → fj21 u20 = some (Sum.map (fun (s17 : Int32 × Int32) => s17) (fun (e17 : Int32) => e17) x17)) h ?_ ?_
                  · intro u20 h
                    exact eLeaf (θ := (Sum.map (fun (s17 : Int32 × Int32) => s17) (fun (e17 : Int32) => e17))) h rfl
                  · intro j21 fj21 Jj21 h
                    refine eIF h (fun c22 h => ?_) (fun c22 h => ?_)
                    · exact Jj21 _ h
                    · exact Jj21 _ h
              · intro e17 h
                exact Jj9 _ h
-- OnlyUpwardModel.kept(IIII)I
set_option maxRecDepth 100000 in
set_option maxHeartbeats 4000000 in
def E_X12_kept (n : Nat) (S : ST) (a1 : Int32) (a2 : Int32) (a3 : Int32) (a4 : Int32) : Option (Int32 × ST) :=
  (E_X12_in n S a2 (1 : Int32) (50 : Int32)).bind fun v1 => if v1 = 0 then some ((-1 : Int32), S) else (E_X12_in n S a3 (0 : Int32) (100 : Int32)).bind fun v3 => if v3 = 0 then some ((-1 : Int32), S) else (E_X12_isThing n S a4).bind fun v5 => if v5 = 0 then some ((-1 : Int32), S) else (iter (fun (s7 : Int32 × Int32 × ST) => if a2 ≤ s7.2.1 then some (.inr (s7.1, s7.2.2)) else (E_X12_goesByLots n s7.2.2 (a1 + s7.2.1) a3).bind fun S10 => (E_X12_goneNow n S10 ).bind fun v11 => jn (fun (u12 : Int32) => some (.inl (u12, (s7.2.1 + (1 : Int32)), S10))) fun j13 => if ((v11 >>> (a4 &&& 31)) &&& (1 : Int32)) = 0 then j13 (s7.1 + (1 : Int32)) else j13 s7.1) n ((0 : Int32), (0 : Int32), S)).bind fun (e7 : Int32 × ST) => lets (upI e7.2 95 61 (0 : Int32)) fun (S15 : ST) => some (e7.1, S15)
set_option maxRecDepth 100000 in
set_option maxHeartbeats 4000000 in
theorem E_X12_kept_ok {n : Nat} (hn : 30000 ≤ n) {K : AK} {R : Nat → Nat → Option Nat} {S : ST} {a1 : Int32} {a2 : Int32} {a3 : Int32} {a4 : Int32} {tz en : Nat} (hL : Lay K R tz en) {o : (Int32 × ST)} (h : E_X12_kept n S a1 a2 a3 a4 = some o) : F_X12_kept n (mkM K R S) 95 a1 a2 a3 a4 = some (o.1, mkM K R o.2) := by
  unfold E_X12_kept at h
  unfold F_X12_kept
  refine eCS (fun _ hv => E_X12_in_ok hn hL hv) h (fun v1 h => ?_)
  refine eIF h (fun c2 h => ?_) (fun c2 h => ?_)
  · exact eLeaf (θ := (fun (o : (Int32 × ST)) => (o.1, mkM K R o.2))) h rfl
  · refine eCS (fun _ hv => E_X12_in_ok hn hL hv) h (fun v3 h => ?_)
    refine eIF h (fun c4 h => ?_) (fun c4 h => ?_)
    · exact eLeaf (θ := (fun (o : (Int32 × ST)) => (o.1, mkM K R o.2))) h rfl
    · refine eCV (kd_95 hL) (Nat.le_of_ble_eq_true rfl) (fun _ hv => E_X12_isThing_ok hn hL hv) h (fun v5 h => ?_)
      refine eIF h (fun c6 h => ?_) (fun c6 h => ?_)
      · exact eLeaf (θ := (fun (o : (Int32 × ST)) => (o.1, mkM K R o.2))) h rfl
      · refine eLP (fun (s7 : Int32 × Int32 × ST) => (s7.1, s7.2.1, mkM K R s7.2.2)) (fun (e7 : Int32 × ST) => (e7.1, mkM K R e7.2)) h rfl ?_ ?_
        · intro s7 x7 h
          refine eIF h (fun c8 h => ?_) (fun c8 h => ?_)
          · exact eLeaf (θ := (Sum.map (fun (s7 : Int32 × Int32 × ST) => (s7.1, s7.2.1, mkM K R s7.2.2)) (fun (e7 : Int32 × ST) => (e7.1, mkM K R e7.2)))) h rfl
          · refine eCwV (kd_95 hL) (Nat.le_of_ble_eq_true rfl) (fun _ hv => E_X12_goesByLots_ok hn hL hv) h (fun S10 h => ?_)
            refine eCV (kd_95 hL) (Nat.le_of_ble_eq_true rfl) (fun _ hv => E_X12_goneNow_ok hn hL hv) h (fun v11 h => ?_)
            refine eJN (fun j13 fj13 => ∀ (u12 : Int32), j13 u12 = some x7 → fj13 u12 = some (Sum.map (fun (s7 : Int32 × Int32 × ST) => (s7.1, s7.2.1, mkM K R s7.2.2)) (fun (e7 : Int32 × ST) => (e7.1, mkM K R e7.2)) x7)) h ?_ ?_
            · intro u12 h
              exact eLeaf (θ := (Sum.map (fun (s7 : Int32 × Int32 × ST) => (s7.1, s7.2.1, mkM K R s7.2.2)) (fun (e7 : Int32 × ST) => (e7.1, mkM K R e7.2)))) h rfl
            · intro j13 fj13 Jj13 h
              refine eIF h (fun c14 h => ?_) (fun c14 h => ?_)
              · exact Jj13 _ h
              · exact Jj13 _ h
        · intro e7 h
          refine ePI (kd_95 hL) (Nat.le_of_ble_eq_true rfl) h (fun S15 h => ?_)
          exact eLeaf (θ := (fun (o : (Int32 × ST)) => (o.1, mkM K R o.2))) h rfl
