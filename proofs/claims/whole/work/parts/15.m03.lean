-- OnlyUpwardModel.doing(II)I
set_option maxRecDepth 100000 in
set_option maxHeartbeats 4000000 in
def E_X12_doing (n : Nat) (S : ST) (a1 : Int32) (a2 : Int32) : Option (Int32 × ST) :=
  (E_X12_in n S a1 (0 : Int32) ((S.1 95 62) - (1 : Int32))).bind fun v1 => if v1 = 0 then some ((-1 : Int32), S) else if a2 = (0 : Int32) then (rd (S.1 139) 30 a1).bind fun v4 => some (v4, S) else if a2 = (1 : Int32) then (rd (S.1 140) 30 a1).bind fun v6 => some (v6, S) else if a2 = (2 : Int32) then (rd (S.1 141) 30 a1).bind fun v8 => some (v8, S) else if a2 = (3 : Int32) then (rd (S.1 142) 30 a1).bind fun v10 => some (v10, S) else if a2 = (4 : Int32) then (rd (S.1 143) 30 a1).bind fun v12 => some (v12, S) else if a2 = (5 : Int32) then (E_X12_goesAsTold n S ).bind fun S15 => (rd (S15.1 145) 30 a1).bind fun v16 => some (v16, S15) else some ((-1 : Int32), S)
set_option maxRecDepth 100000 in
set_option maxHeartbeats 4000000 in
theorem E_X12_doing_ok {n : Nat} (hn : 30000 ≤ n) {K : AK} {R : Nat → Nat → Option Nat} {S : ST} {a1 : Int32} {a2 : Int32} {tz en : Nat} (hL : Lay K R tz en) {o : (Int32 × ST)} (h : E_X12_doing n S a1 a2 = some o) : F_X12_doing n (mkM K R S) 95 a1 a2 = some (o.1, mkM K R o.2) := by
  unfold E_X12_doing at h
  unfold F_X12_doing
  refine eGI (kd_95 hL) (Nat.le_of_ble_eq_true rfl) ?_
  refine eCS (fun _ hv => E_X12_in_ok hn hL hv) h (fun v1 h => ?_)
  refine eIF h (fun c2 h => ?_) (fun c2 h => ?_)
  · exact eLeaf (θ := (fun (o : (Int32 × ST)) => (o.1, mkM K R o.2))) h rfl
  · refine eIF h (fun c3 h => ?_) (fun c3 h => ?_)
    · refine eGR (kd_95 hL) (Nat.le_of_ble_eq_true rfl) (rd_95_63 hL) ?_
      refine eRI (kd_139 hL) h (fun v4 h => ?_)
      exact eLeaf (θ := (fun (o : (Int32 × ST)) => (o.1, mkM K R o.2))) h rfl
    · refine eIF h (fun c5 h => ?_) (fun c5 h => ?_)
      · refine eGR (kd_95 hL) (Nat.le_of_ble_eq_true rfl) (rd_95_64 hL) ?_
        refine eRI (kd_140 hL) h (fun v6 h => ?_)
        exact eLeaf (θ := (fun (o : (Int32 × ST)) => (o.1, mkM K R o.2))) h rfl
      · refine eIF h (fun c7 h => ?_) (fun c7 h => ?_)
        · refine eGR (kd_95 hL) (Nat.le_of_ble_eq_true rfl) (rd_95_65 hL) ?_
          refine eRI (kd_141 hL) h (fun v8 h => ?_)
          exact eLeaf (θ := (fun (o : (Int32 × ST)) => (o.1, mkM K R o.2))) h rfl
        · refine eIF h (fun c9 h => ?_) (fun c9 h => ?_)
          · refine eGR (kd_95 hL) (Nat.le_of_ble_eq_true rfl) (rd_95_66 hL) ?_
            refine eRI (kd_142 hL) h (fun v10 h => ?_)
            exact eLeaf (θ := (fun (o : (Int32 × ST)) => (o.1, mkM K R o.2))) h rfl
          · refine eIF h (fun c11 h => ?_) (fun c11 h => ?_)
            · refine eGR (kd_95 hL) (Nat.le_of_ble_eq_true rfl) (rd_95_67 hL) ?_
              refine eRI (kd_143 hL) h (fun v12 h => ?_)
              exact eLeaf (θ := (fun (o : (Int32 × ST)) => (o.1, mkM K R o.2))) h rfl
            · refine eIF h (fun c13 h => ?_) (fun c13 h => ?_)
              · refine eCwV (kd_95 hL) (Nat.le_of_ble_eq_true rfl) (fun _ hv => E_X12_goesAsTold_ok hn hL hv) h (fun S15 h => ?_)
                refine eGR (kd_95 hL) (Nat.le_of_ble_eq_true rfl) (rd_95_69 hL) ?_
                refine eRI (kd_145 hL) h (fun v16 h => ?_)
                exact eLeaf (θ := (fun (o : (Int32 × ST)) => (o.1, mkM K R o.2))) h rfl
              · exact eLeaf (θ := (fun (o : (Int32 × ST)) => (o.1, mkM K R o.2))) h rfl
-- OnlyUpwardModel.judge()I
set_option maxRecDepth 100000 in
set_option maxHeartbeats 4000000 in
def E_X12_judge (n : Nat) (S : ST) : Option (Int32 × ST) :=
  (E_X12_goesAsTold n S ).bind fun S2 => (iter (fun (s3 : Int32) => if (24 : Int32) ≤ s3 then some (.inr (.inl ())) else (iter (fun (s5 : Int32) => if (S2.1 95 62) ≤ s5 then some (.inr (.inl ())) else (rd (S2.1 140) 30 s5).bind fun v7 => jn (some (.inl (s5 + (1 : Int32)))) fun j8 => if v7 = s3 then (rd (S2.1 145) 30 s5).bind fun v10 => if v10 ≤ 0 then j8 else some (.inr (.inr (s5, S2))) else j8) n (0 : Int32)).bind fun (z5 : (Unit) ⊕ (Int32 × ST)) => Sum.elim (fun (e5 : Unit) => some (.inl (s3 + (1 : Int32)))) (fun (v : (Int32 × ST)) => some (.inr (.inr v))) z5) n (0 : Int32)).bind fun (z3 : (Unit) ⊕ (Int32 × ST)) => Sum.elim (fun (e3 : Unit) => some ((-2 : Int32), S2)) (fun (v : (Int32 × ST)) => some v) z3
set_option maxRecDepth 100000 in
set_option maxHeartbeats 4000000 in
theorem E_X12_judge_ok {n : Nat} (hn : 30000 ≤ n) {K : AK} {R : Nat → Nat → Option Nat} {S : ST} {tz en : Nat} (hL : Lay K R tz en) {o : (Int32 × ST)} (h : E_X12_judge n S  = some o) : F_X12_judge n (mkM K R S) 95 = some (o.1, mkM K R o.2) := by
  unfold E_X12_judge at h
  unfold F_X12_judge
  refine eCwV (kd_95 hL) (Nat.le_of_ble_eq_true rfl) (fun _ hv => E_X12_goesAsTold_ok hn hL hv) h (fun S2 h => ?_)
  refine eLP (fun (s3 : Int32) => s3) (Sum.map (fun (e3 : Unit) => e3) (fun (v : (Int32 × ST)) => (v.1, mkM K R v.2))) h rfl ?_ ?_
  · intro s3 x3 h
    refine eIF h (fun c4 h => ?_) (fun c4 h => ?_)
    · exact eLeaf (θ := (Sum.map (fun (s3 : Int32) => s3) (Sum.map (fun (e3 : Unit) => e3) (fun (v : (Int32 × ST)) => (v.1, mkM K R v.2))))) h rfl
    · refine eLP (fun (s5 : Int32) => s5) (Sum.map (fun (e5 : Unit) => e5) (fun (v : (Int32 × ST)) => (v.1, mkM K R v.2))) h rfl ?_ ?_
      · intro s5 x5 h
        refine eGI (kd_95 hL) (Nat.le_of_ble_eq_true rfl) ?_
        refine eIF h (fun c6 h => ?_) (fun c6 h => ?_)
        · exact eLeaf (θ := (Sum.map (fun (s5 : Int32) => s5) (Sum.map (fun (e5 : Unit) => e5) (fun (v : (Int32 × ST)) => (v.1, mkM K R v.2))))) h rfl
        · refine eGR (kd_95 hL) (Nat.le_of_ble_eq_true rfl) (rd_95_64 hL) ?_
          refine eRI (kd_140 hL) h (fun v7 h => ?_)
          refine eJN (fun j8 fj8 => j8 = some x5 → fj8 = some (Sum.map (fun (s5 : Int32) => s5) (Sum.map (fun (e5 : Unit) => e5) (fun (v : (Int32 × ST)) => (v.1, mkM K R v.2))) x5)) h ?_ ?_
          · intro h
            exact eLeaf (θ := (Sum.map (fun (s5 : Int32) => s5) (Sum.map (fun (e5 : Unit) => e5) (fun (v : (Int32 × ST)) => (v.1, mkM K R v.2))))) h rfl
          · intro j8 fj8 Jj8 h
            refine eIF h (fun c9 h => ?_) (fun c9 h => ?_)
            · refine eGR (kd_95 hL) (Nat.le_of_ble_eq_true rfl) (rd_95_69 hL) ?_
              refine eRI (kd_145 hL) h (fun v10 h => ?_)
              refine eIF h (fun c11 h => ?_) (fun c11 h => ?_)
              · exact Jj8 h
              · exact eLeaf (θ := (Sum.map (fun (s5 : Int32) => s5) (Sum.map (fun (e5 : Unit) => e5) (fun (v : (Int32 × ST)) => (v.1, mkM K R v.2))))) h rfl
            · exact Jj8 h
      · intro z5 h
        rcases z5 with e5 | v
        · have h := sum_inl h
          exact eLeaf (θ := (Sum.map (fun (s3 : Int32) => s3) (Sum.map (fun (e3 : Unit) => e3) (fun (v : (Int32 × ST)) => (v.1, mkM K R v.2))))) h rfl
        · have h := sum_inr h
          exact eLeaf (θ := (Sum.map (fun (s3 : Int32) => s3) (Sum.map (fun (e3 : Unit) => e3) (fun (v : (Int32 × ST)) => (v.1, mkM K R v.2))))) h rfl
  · intro z3 h
    rcases z3 with e3 | v
    · have h := sum_inl h
      exact eLeaf (θ := (fun (o : (Int32 × ST)) => (o.1, mkM K R o.2))) h rfl
    · have h := sum_inr h
      exact eLeaf (θ := (fun (o : (Int32 × ST)) => (o.1, mkM K R o.2))) h rfl
-- OnlyUpwardModel.costOf(II)I
set_option maxRecDepth 100000 in
set_option maxHeartbeats 4000000 in
def E_X12_costOf (n : Nat) (S : ST) (a1 : Int32) (a2 : Int32) : Option Int32 :=
  if a1 = (1 : Int32) then (rd (S.1 123) 12 (((6 : Int32) * (S.1 95 18)) + a2)).bind fun v2 => some v2 else if a1 = (2 : Int32) then some (5 : Int32) else some (1 : Int32)
set_option maxRecDepth 100000 in
set_option maxHeartbeats 4000000 in
theorem E_X12_costOf_ok {n : Nat} (hn : 30000 ≤ n) {K : AK} {R : Nat → Nat → Option Nat} {S : ST} {a1 : Int32} {a2 : Int32} {tz en : Nat} (hL : Lay K R tz en) {o : Int32} (h : E_X12_costOf n S a1 a2 = some o) : F_X12_costOf n (mkM K R S) 95 a1 a2 = some o := by
  unfold E_X12_costOf at h
  unfold F_X12_costOf
  refine eIF h (fun c1 h => ?_) (fun c1 h => ?_)
  · refine eGR (kd_95 hL) (Nat.le_of_ble_eq_true rfl) (rd_95_41 hL) ?_
    refine eGI (kd_95 hL) (Nat.le_of_ble_eq_true rfl) ?_
    refine eRI (kd_123 hL) h (fun v2 h => ?_)
    exact eLeaf (θ := (fun (o : Int32) => o)) h rfl
  · refine eIF h (fun c3 h => ?_) (fun c3 h => ?_)
    · exact eLeaf (θ := (fun (o : Int32) => o)) h rfl
    · exact eLeaf (θ := (fun (o : Int32) => o)) h rfl
-- OnlyUpwardModel.cost()I
set_option maxRecDepth 100000 in
set_option maxHeartbeats 4000000 in
def E_X12_cost (n : Nat) (S : ST) : Option (Int32 × ST) :=
  (E_X12_goesAsTold n S ).bind fun S2 => (iter (fun (s3 : Int32 × Int32) => if (S2.1 95 62) ≤ s3.2 then some (.inr s3.1) else (rd (S2.1 145) 30 s3.2).bind fun v5 => jn (fun (u6 : Int32) => some (.inl (u6, (s3.2 + (1 : Int32))))) fun j7 => if v5 = 0 then (rd (S2.1 139) 30 s3.2).bind fun v9 => (rd (S2.1 142) 30 s3.2).bind fun v10 => (E_X12_costOf n S2 v9 v10).bind fun v11 => j7 (s3.1 + v11) else j7 s3.1) n ((0 : Int32), (0 : Int32))).bind fun (e3 : Int32) => some (e3, S2)
set_option maxRecDepth 100000 in
set_option maxHeartbeats 4000000 in
theorem E_X12_cost_ok {n : Nat} (hn : 30000 ≤ n) {K : AK} {R : Nat → Nat → Option Nat} {S : ST} {tz en : Nat} (hL : Lay K R tz en) {o : (Int32 × ST)} (h : E_X12_cost n S  = some o) : F_X12_cost n (mkM K R S) 95 = some (o.1, mkM K R o.2) := by
  unfold E_X12_cost at h
  unfold F_X12_cost
  refine eCwV (kd_95 hL) (Nat.le_of_ble_eq_true rfl) (fun _ hv => E_X12_goesAsTold_ok hn hL hv) h (fun S2 h => ?_)
  refine eLP (fun (s3 : Int32 × Int32) => s3) (fun (e3 : Int32) => e3) h rfl ?_ ?_
  · intro s3 x3 h
    refine eGI (kd_95 hL) (Nat.le_of_ble_eq_true rfl) ?_
    refine eIF h (fun c4 h => ?_) (fun c4 h => ?_)
    · exact eLeaf (θ := (Sum.map (fun (s3 : Int32 × Int32) => s3) (fun (e3 : Int32) => e3))) h rfl
    · refine eGR (kd_95 hL) (Nat.le_of_ble_eq_true rfl) (rd_95_69 hL) ?_
      refine eRI (kd_145 hL) h (fun v5 h => ?_)
      refine eJN (fun j7 fj7 => ∀ (u6 : Int32), j7 u6 = some x3 → fj7 u6 = some (Sum.map (fun (s3 : Int32 × Int32) => s3) (fun (e3 : Int32) => e3) x3)) h ?_ ?_
      · intro u6 h
        exact eLeaf (θ := (Sum.map (fun (s3 : Int32 × Int32) => s3) (fun (e3 : Int32) => e3))) h rfl
      · intro j7 fj7 Jj7 h
        refine eIF h (fun c8 h => ?_) (fun c8 h => ?_)
        · refine eGR (kd_95 hL) (Nat.le_of_ble_eq_true rfl) (rd_95_63 hL) ?_
          refine eRI (kd_139 hL) h (fun v9 h => ?_)
          refine eGR (kd_95 hL) (Nat.le_of_ble_eq_true rfl) (rd_95_66 hL) ?_
          refine eRI (kd_142 hL) h (fun v10 h => ?_)
          refine eCV (kd_95 hL) (Nat.le_of_ble_eq_true rfl) (fun _ hv => E_X12_costOf_ok hn hL hv) h (fun v11 h => ?_)
          exact Jj7 _ h
        · exact Jj7 _ h
  · intro e3 h
    exact eLeaf (θ := (fun (o : (Int32 × ST)) => (o.1, mkM K R o.2))) h rfl
-- OnlyUpwardModel.isEnd(I)Z
set_option maxRecDepth 100000 in
set_option maxHeartbeats 4000000 in
def E_X12_isEnd (n : Nat) (S : ST) (a0 : Int32) : Option Int32 :=
  (E_X12_in n S a0 (0 : Int32) (24 : Int32)).bind fun v1 => gd (narrow .boolean (.int v1) = .int v1) (some v1)
set_option maxRecDepth 100000 in
set_option maxHeartbeats 4000000 in
theorem E_X12_isEnd_ok {n : Nat} (hn : 30000 ≤ n) {K : AK} {R : Nat → Nat → Option Nat} {S : ST} {a0 : Int32} {tz en : Nat} (hL : Lay K R tz en) {o : Int32} (h : E_X12_isEnd n S a0 = some o) : F_X12_isEnd n (mkM K R S) a0 = some o := by
  unfold E_X12_isEnd at h
  unfold F_X12_isEnd
  refine eCS (fun _ hv => E_X12_in_ok hn hL hv) h (fun v1 h => ?_)
  refine eGD h (fun c2 h => ?_)
  exact eLeaf (θ := (fun (o : Int32) => o)) h rfl
-- OnlyUpwardModel.knows(II)I
set_option maxRecDepth 100000 in
set_option maxHeartbeats 4000000 in
def E_X12_knows (n : Nat) (S : ST) (a1 : Int32) (a2 : Int32) : Option (Int32 × ST) :=
  (E_X12_isPerson n S a1).bind fun v1 => if v1 = 0 then some ((-1 : Int32), S) else (E_X12_isEnd n S a2).bind fun v3 => if v3 = 0 then some ((-1 : Int32), S) else (E_X12_goesAsTold n S ).bind fun S6 => (rd (S6.1 144) 250 (((10 : Int32) * a2) + a1)).bind fun v7 => some (v7, S6)
set_option maxRecDepth 100000 in
set_option maxHeartbeats 4000000 in
theorem E_X12_knows_ok {n : Nat} (hn : 30000 ≤ n) {K : AK} {R : Nat → Nat → Option Nat} {S : ST} {a1 : Int32} {a2 : Int32} {tz en : Nat} (hL : Lay K R tz en) {o : (Int32 × ST)} (h : E_X12_knows n S a1 a2 = some o) : F_X12_knows n (mkM K R S) 95 a1 a2 = some (o.1, mkM K R o.2) := by
  unfold E_X12_knows at h
  unfold F_X12_knows
  refine eCV (kd_95 hL) (Nat.le_of_ble_eq_true rfl) (fun _ hv => E_X12_isPerson_ok hn hL hv) h (fun v1 h => ?_)
  refine eIF h (fun c2 h => ?_) (fun c2 h => ?_)
  · exact eLeaf (θ := (fun (o : (Int32 × ST)) => (o.1, mkM K R o.2))) h rfl
  · refine eCS (fun _ hv => E_X12_isEnd_ok hn hL hv) h (fun v3 h => ?_)
    refine eIF h (fun c4 h => ?_) (fun c4 h => ?_)
    · exact eLeaf (θ := (fun (o : (Int32 × ST)) => (o.1, mkM K R o.2))) h rfl
    · refine eCwV (kd_95 hL) (Nat.le_of_ble_eq_true rfl) (fun _ hv => E_X12_goesAsTold_ok hn hL hv) h (fun S6 h => ?_)
      refine eGR (kd_95 hL) (Nat.le_of_ble_eq_true rfl) (rd_95_68 hL) ?_
      refine eRI (kd_144 hL) h (fun v7 h => ?_)
      exact eLeaf (θ := (fun (o : (Int32 × ST)) => (o.1, mkM K R o.2))) h rfl
-- OnlyUpwardModel.when(II)I
set_option maxRecDepth 100000 in
set_option maxHeartbeats 4000000 in
def E_X12_when (n : Nat) (S : ST) (a1 : Int32) (a2 : Int32) : Option (Int32 × ST) :=
  (E_X12_isPerson n S a1).bind fun v1 => if v1 = 0 then some ((-1 : Int32), S) else (E_X12_isThing n S a2).bind fun v3 => if v3 = 0 then some ((-1 : Int32), S) else (E_X12_goesAsTold n S ).bind fun S6 => (iter (fun (s7 : Int32) => if (25 : Int32) ≤ s7 then some (.inr (.inl ())) else (E_X12_knowsIt n S6 a1 s7 a2).bind fun v9 => if v9 = 0 then some (.inl (s7 + (1 : Int32))) else some (.inr (.inr (s7, S6)))) n (0 : Int32)).bind fun (z7 : (Unit) ⊕ (Int32 × ST)) => Sum.elim (fun (e7 : Unit) => some ((-2 : Int32), S6)) (fun (v : (Int32 × ST)) => some v) z7
set_option maxRecDepth 100000 in
set_option maxHeartbeats 4000000 in
theorem E_X12_when_ok {n : Nat} (hn : 30000 ≤ n) {K : AK} {R : Nat → Nat → Option Nat} {S : ST} {a1 : Int32} {a2 : Int32} {tz en : Nat} (hL : Lay K R tz en) {o : (Int32 × ST)} (h : E_X12_when n S a1 a2 = some o) : F_X12_when n (mkM K R S) 95 a1 a2 = some (o.1, mkM K R o.2) := by
  unfold E_X12_when at h
  unfold F_X12_when
  refine eCV (kd_95 hL) (Nat.le_of_ble_eq_true rfl) (fun _ hv => E_X12_isPerson_ok hn hL hv) h (fun v1 h => ?_)
  refine eIF h (fun c2 h => ?_) (fun c2 h => ?_)
  · exact eLeaf (θ := (fun (o : (Int32 × ST)) => (o.1, mkM K R o.2))) h rfl
  · refine eCV (kd_95 hL) (Nat.le_of_ble_eq_true rfl) (fun _ hv => E_X12_isThing_ok hn hL hv) h (fun v3 h => ?_)
    refine eIF h (fun c4 h => ?_) (fun c4 h => ?_)
    · exact eLeaf (θ := (fun (o : (Int32 × ST)) => (o.1, mkM K R o.2))) h rfl
    · refine eCwV (kd_95 hL) (Nat.le_of_ble_eq_true rfl) (fun _ hv => E_X12_goesAsTold_ok hn hL hv) h (fun S6 h => ?_)
      refine eLP (fun (s7 : Int32) => s7) (Sum.map (fun (e7 : Unit) => e7) (fun (v : (Int32 × ST)) => (v.1, mkM K R v.2))) h rfl ?_ ?_
      · intro s7 x7 h
        refine eIF h (fun c8 h => ?_) (fun c8 h => ?_)
        · exact eLeaf (θ := (Sum.map (fun (s7 : Int32) => s7) (Sum.map (fun (e7 : Unit) => e7) (fun (v : (Int32 × ST)) => (v.1, mkM K R v.2))))) h rfl
        · refine eCV (kd_95 hL) (Nat.le_of_ble_eq_true rfl) (fun _ hv => E_X12_knowsIt_ok hn hL hv) h (fun v9 h => ?_)
          refine eIF h (fun c10 h => ?_) (fun c10 h => ?_)
          · exact eLeaf (θ := (Sum.map (fun (s7 : Int32) => s7) (Sum.map (fun (e7 : Unit) => e7) (fun (v : (Int32 × ST)) => (v.1, mkM K R v.2))))) h rfl
          · exact eLeaf (θ := (Sum.map (fun (s7 : Int32) => s7) (Sum.map (fun (e7 : Unit) => e7) (fun (v : (Int32 × ST)) => (v.1, mkM K R v.2))))) h rfl
      · intro z7 h
        rcases z7 with e7 | v
        · have h := sum_inl h
          exact eLeaf (θ := (fun (o : (Int32 × ST)) => (o.1, mkM K R o.2))) h rfl
        · have h := sum_inr h
          exact eLeaf (θ := (fun (o : (Int32 × ST)) => (o.1, mkM K R o.2))) h rfl
-- OnlyUpwardModel.seen(III)I
set_option maxRecDepth 100000 in
set_option maxHeartbeats 4000000 in
def E_X12_seen (n : Nat) (S : ST) (a1 : Int32) (a2 : Int32) (a3 : Int32) : Option (Int32 × ST) :=
  (E_X12_isPerson n S a1).bind fun v1 => if v1 = 0 then some ((-1 : Int32), S) else (E_X12_isPerson n S a2).bind fun v3 => if v3 = 0 then some ((-1 : Int32), S) else if a1 = a2 then some ((-1 : Int32), S) else (E_X12_isEnd n S a3).bind fun v6 => if v6 = 0 then some ((-1 : Int32), S) else (E_X12_goesAsTold n S ).bind fun S9 => (iter (fun (s10 : Int32 × Int32) => (E_X12_has n S9 (2 : Int32)).bind fun v11 => if v11 ≤ s10.2 then some (.inr s10.1) else (rd (S9.1 146) 600 ((((60 : Int32) * a1) + ((6 : Int32) * a2)) + s10.2)).bind fun v13 => jn (fun (u14 : Int32) => some (.inl (u14, (s10.2 + (1 : Int32))))) fun j15 => if a3 < v13 then j15 s10.1 else j15 (s10.1 ||| ((1 : Int32) <<< (s10.2 &&& 31)))) n ((0 : Int32), (0 : Int32))).bind fun (e10 : Int32) => some (e10, S9)
set_option maxRecDepth 100000 in
set_option maxHeartbeats 4000000 in
theorem E_X12_seen_ok {n : Nat} (hn : 30000 ≤ n) {K : AK} {R : Nat → Nat → Option Nat} {S : ST} {a1 : Int32} {a2 : Int32} {a3 : Int32} {tz en : Nat} (hL : Lay K R tz en) {o : (Int32 × ST)} (h : E_X12_seen n S a1 a2 a3 = some o) : F_X12_seen n (mkM K R S) 95 a1 a2 a3 = some (o.1, mkM K R o.2) := by
  unfold E_X12_seen at h
  unfold F_X12_seen
  refine eCV (kd_95 hL) (Nat.le_of_ble_eq_true rfl) (fun _ hv => E_X12_isPerson_ok hn hL hv) h (fun v1 h => ?_)
  refine eIF h (fun c2 h => ?_) (fun c2 h => ?_)
  · exact eLeaf (θ := (fun (o : (Int32 × ST)) => (o.1, mkM K R o.2))) h rfl
  · refine eCV (kd_95 hL) (Nat.le_of_ble_eq_true rfl) (fun _ hv => E_X12_isPerson_ok hn hL hv) h (fun v3 h => ?_)
    refine eIF h (fun c4 h => ?_) (fun c4 h => ?_)
    · exact eLeaf (θ := (fun (o : (Int32 × ST)) => (o.1, mkM K R o.2))) h rfl
    · refine eIF h (fun c5 h => ?_) (fun c5 h => ?_)
      · exact eLeaf (θ := (fun (o : (Int32 × ST)) => (o.1, mkM K R o.2))) h rfl
      · refine eCS (fun _ hv => E_X12_isEnd_ok hn hL hv) h (fun v6 h => ?_)
        refine eIF h (fun c7 h => ?_) (fun c7 h => ?_)
        · exact eLeaf (θ := (fun (o : (Int32 × ST)) => (o.1, mkM K R o.2))) h rfl
        · refine eCwV (kd_95 hL) (Nat.le_of_ble_eq_true rfl) (fun _ hv => E_X12_goesAsTold_ok hn hL hv) h (fun S9 h => ?_)
          refine eLP (fun (s10 : Int32 × Int32) => s10) (fun (e10 : Int32) => e10) h rfl ?_ ?_
          · intro s10 x10 h
            refine eCV (kd_95 hL) (Nat.le_of_ble_eq_true rfl) (fun _ hv => E_X12_has_ok hn hL hv) h (fun v11 h => ?_)
            refine eIF h (fun c12 h => ?_) (fun c12 h => ?_)
            · exact eLeaf (θ := (Sum.map (fun (s10 : Int32 × Int32) => s10) (fun (e10 : Int32) => e10))) h rfl
            · refine eGR (kd_95 hL) (Nat.le_of_ble_eq_true rfl) (rd_95_70 hL) ?_
              refine eRI (kd_146 hL) h (fun v13 h => ?_)
              refine eJN (fun j15 fj15 => ∀ (u14 : Int32), j15 u14 = some x10 → fj15 u14 = some (Sum.map (fun (s10 : Int32 × Int32) => s10) (fun (e10 : Int32) => e10) x10)) h ?_ ?_
              · intro u14 h
                exact eLeaf (θ := (Sum.map (fun (s10 : Int32 × Int32) => s10) (fun (e10 : Int32) => e10))) h rfl
              · intro j15 fj15 Jj15 h
                refine eIF h (fun c16 h => ?_) (fun c16 h => ?_)
                · exact Jj15 _ h
                · exact Jj15 _ h
          · intro e10 h
            exact eLeaf (θ := (fun (o : (Int32 × ST)) => (o.1, mkM K R o.2))) h rfl
-- OnlyUpwardModel.isSoon(IIII)Z
set_option maxRecDepth 100000 in
set_option maxHeartbeats 4000000 in
def E_X12_isSoon (n : Nat) (S : ST) (a1 : Int32) (a2 : Int32) (a3 : Int32) (a4 : Int32) : Option Int32 :=
  (E_X12_isThing n S a1).bind fun v1 => if v1 = 0 then some (0 : Int32) else (E_X12_has n S (1 : Int32)).bind fun v3 => (E_X12_in n S a2 (0 : Int32) (((1 : Int32) <<< (v3 &&& 31)) - (1 : Int32))).bind fun v4 => if v4 = 0 then some (0 : Int32) else (E_X12_isHour n S a3).bind fun v6 => if v6 = 0 then some (0 : Int32) else (E_X12_in n S a4 (0 : Int32) (3 : Int32)).bind fun v8 => if v8 = 0 then some (0 : Int32) else some (1 : Int32)
set_option maxRecDepth 100000 in
set_option maxHeartbeats 4000000 in
theorem E_X12_isSoon_ok {n : Nat} (hn : 30000 ≤ n) {K : AK} {R : Nat → Nat → Option Nat} {S : ST} {a1 : Int32} {a2 : Int32} {a3 : Int32} {a4 : Int32} {tz en : Nat} (hL : Lay K R tz en) {o : Int32} (h : E_X12_isSoon n S a1 a2 a3 a4 = some o) : F_X12_isSoon n (mkM K R S) 95 a1 a2 a3 a4 = some o := by
  unfold E_X12_isSoon at h
  unfold F_X12_isSoon
  refine eCV (kd_95 hL) (Nat.le_of_ble_eq_true rfl) (fun _ hv => E_X12_isThing_ok hn hL hv) h (fun v1 h => ?_)
  refine eIF h (fun c2 h => ?_) (fun c2 h => ?_)
  · exact eLeaf (θ := (fun (o : Int32) => o)) h rfl
  · refine eCV (kd_95 hL) (Nat.le_of_ble_eq_true rfl) (fun _ hv => E_X12_has_ok hn hL hv) h (fun v3 h => ?_)
    refine eCS (fun _ hv => E_X12_in_ok hn hL hv) h (fun v4 h => ?_)
    refine eIF h (fun c5 h => ?_) (fun c5 h => ?_)
    · exact eLeaf (θ := (fun (o : Int32) => o)) h rfl
    · refine eCS (fun _ hv => E_X12_isHour_ok hn hL hv) h (fun v6 h => ?_)
      refine eIF h (fun c7 h => ?_) (fun c7 h => ?_)
      · exact eLeaf (θ := (fun (o : Int32) => o)) h rfl
      · refine eCS (fun _ hv => E_X12_in_ok hn hL hv) h (fun v8 h => ?_)
        refine eIF h (fun c9 h => ?_) (fun c9 h => ?_)
        · exact eLeaf (θ := (fun (o : Int32) => o)) h rfl
        · exact eLeaf (θ := (fun (o : Int32) => o)) h rfl
-- OnlyUpwardModel.isShown(I)Z
set_option maxRecDepth 100000 in
set_option maxHeartbeats 4000000 in
def E_X12_isShown (n : Nat) (S : ST) (a1 : Int32) : Option Int32 :=
  (iter (fun (s1 : Int32) => (E_X12_has n S (7 : Int32)).bind fun v2 => if v2 ≤ s1 then some (.inr (.inl ())) else (rd (S.1 122) 12 (((6 : Int32) * (S.1 95 18)) + s1)).bind fun v4 => if v4 = a1 then some (.inr (.inr (1 : Int32))) else some (.inl (s1 + (1 : Int32)))) n (0 : Int32)).bind fun (z1 : (Unit) ⊕ Int32) => Sum.elim (fun (e1 : Unit) => some (0 : Int32)) (fun (v : Int32) => some v) z1
set_option maxRecDepth 100000 in
set_option maxHeartbeats 4000000 in
theorem E_X12_isShown_ok {n : Nat} (hn : 30000 ≤ n) {K : AK} {R : Nat → Nat → Option Nat} {S : ST} {a1 : Int32} {tz en : Nat} (hL : Lay K R tz en) {o : Int32} (h : E_X12_isShown n S a1 = some o) : F_X12_isShown n (mkM K R S) 95 a1 = some o := by
  unfold E_X12_isShown at h
  unfold F_X12_isShown
  refine eLP (fun (s1 : Int32) => s1) (Sum.map (fun (e1 : Unit) => e1) (fun (v : Int32) => v)) h rfl ?_ ?_
  · intro s1 x1 h
    refine eCV (kd_95 hL) (Nat.le_of_ble_eq_true rfl) (fun _ hv => E_X12_has_ok hn hL hv) h (fun v2 h => ?_)
    refine eIF h (fun c3 h => ?_) (fun c3 h => ?_)
    · exact eLeaf (θ := (Sum.map (fun (s1 : Int32) => s1) (Sum.map (fun (e1 : Unit) => e1) (fun (v : Int32) => v)))) h rfl
    · refine eGR (kd_95 hL) (Nat.le_of_ble_eq_true rfl) (rd_95_40 hL) ?_
      refine eGI (kd_95 hL) (Nat.le_of_ble_eq_true rfl) ?_
      refine eRI (kd_122 hL) h (fun v4 h => ?_)
      refine eIF h (fun c5 h => ?_) (fun c5 h => ?_)
      · exact eLeaf (θ := (Sum.map (fun (s1 : Int32) => s1) (Sum.map (fun (e1 : Unit) => e1) (fun (v : Int32) => v)))) h rfl
      · exact eLeaf (θ := (Sum.map (fun (s1 : Int32) => s1) (Sum.map (fun (e1 : Unit) => e1) (fun (v : Int32) => v)))) h rfl
  · intro z1 h
    rcases z1 with e1 | v
    · have h := sum_inl h
      exact eLeaf (θ := (fun (o : Int32) => o)) h rfl
    · have h := sum_inr h
      exact eLeaf (θ := (fun (o : Int32) => o)) h rfl
-- OnlyUpwardModel.speaks(III)Z
set_option maxRecDepth 100000 in
set_option maxHeartbeats 4000000 in
def E_X12_speaks (n : Nat) (S : ST) (a1 : Int32) (a2 : Int32) (a3 : Int32) : Option (Int32 × ST) :=
  (iter (fun (s1 : Int32 × ST) => (E_X12_has n s1.2 (1 : Int32)).bind fun v2 => if v2 ≤ s1.1 then some (.inr (.inl s1.2)) else (E_X12_mayBy n s1.2 a1 s1.1 a2 (0 : Int32) a3).bind fun v4 => if v4.1 = 0 then some (.inl ((s1.1 + (1 : Int32)), v4.2)) else some (.inr (.inr ((1 : Int32), v4.2)))) n ((0 : Int32), S)).bind fun (z1 : (ST) ⊕ (Int32 × ST)) => Sum.elim (fun (e1 : ST) => some ((0 : Int32), e1)) (fun (v : (Int32 × ST)) => some v) z1
set_option maxRecDepth 100000 in
set_option maxHeartbeats 4000000 in
theorem E_X12_speaks_ok {n : Nat} (hn : 30000 ≤ n) {K : AK} {R : Nat → Nat → Option Nat} {S : ST} {a1 : Int32} {a2 : Int32} {a3 : Int32} {tz en : Nat} (hL : Lay K R tz en) {o : (Int32 × ST)} (h : E_X12_speaks n S a1 a2 a3 = some o) : F_X12_speaks n (mkM K R S) 95 a1 a2 a3 = some (o.1, mkM K R o.2) := by
  unfold E_X12_speaks at h
  unfold F_X12_speaks
  refine eLP (fun (s1 : Int32 × ST) => (s1.1, mkM K R s1.2)) (Sum.map (fun (e1 : ST) => mkM K R e1) (fun (v : (Int32 × ST)) => (v.1, mkM K R v.2))) h rfl ?_ ?_
  · intro s1 x1 h
    refine eCV (kd_95 hL) (Nat.le_of_ble_eq_true rfl) (fun _ hv => E_X12_has_ok hn hL hv) h (fun v2 h => ?_)
    refine eIF h (fun c3 h => ?_) (fun c3 h => ?_)
    · exact eLeaf (θ := (Sum.map (fun (s1 : Int32 × ST) => (s1.1, mkM K R s1.2)) (Sum.map (fun (e1 : ST) => mkM K R e1) (fun (v : (Int32 × ST)) => (v.1, mkM K R v.2))))) h rfl
    · refine eCwiV (kd_95 hL) (Nat.le_of_ble_eq_true rfl) (fun _ hv => E_X12_mayBy_ok hn hL hv) h (fun v4 h => ?_)
      refine eIF h (fun c5 h => ?_) (fun c5 h => ?_)
      · exact eLeaf (θ := (Sum.map (fun (s1 : Int32 × ST) => (s1.1, mkM K R s1.2)) (Sum.map (fun (e1 : ST) => mkM K R e1) (fun (v : (Int32 × ST)) => (v.1, mkM K R v.2))))) h rfl
      · exact eLeaf (θ := (Sum.map (fun (s1 : Int32 × ST) => (s1.1, mkM K R s1.2)) (Sum.map (fun (e1 : ST) => mkM K R e1) (fun (v : (Int32 × ST)) => (v.1, mkM K R v.2))))) h rfl
  · intro z1 h
    rcases z1 with e1 | v
    · have h := sum_inl h
      exact eLeaf (θ := (fun (o : (Int32 × ST)) => (o.1, mkM K R o.2))) h rfl
    · have h := sum_inr h
      exact eLeaf (θ := (fun (o : (Int32 × ST)) => (o.1, mkM K R o.2))) h rfl
-- OnlyUpwardModel.spreads(IIIIZ)V
set_option maxRecDepth 100000 in
set_option maxHeartbeats 4000000 in
def E_X12_spreads (n : Nat) (S : ST) (a1 : Int32) (a2 : Int32) (a3 : Int32) (a4 : Int32) (a5 : Int32) : Option ST :=
  lets (upI S 95 61 (0 : Int32)) fun (S1 : ST) => jn (fun (u2 : Int32) => (wr S1 148 25 a3 a2).bind fun S3 => (iter (fun (s4 : Int32 × Int32 × ST) => if (24 : Int32) ≤ s4.2.1 then some (.inr s4.2.2) else (rd (s4.2.2.1 148) 25 s4.2.1).bind fun v6 => (iter (fun (s7 : Int32 × Int32) => (E_X12_has n s4.2.2 (0 : Int32)).bind fun v8 => if v8 ≤ s7.2 then some (.inr s7.1) else if a5 = 0 then jn (fun (u11 : Int32) => some (.inl (u11, (s7.2 + (1 : Int32))))) fun j12 => if ((s4.1 >>> (s7.2 &&& 31)) &&& (1 : Int32)) = (1 : Int32) then (E_X12_crowdAt n s4.2.2 s7.2 s4.2.1).bind fun v14 => j12 (s7.1 ||| v14) else j12 s7.1 else some (.inr s7.1)) n (v6, (0 : Int32))).bind fun (e7 : Int32) => (iter (fun (s15 : Int32 × Int32 × Int32 × ST) => (E_X12_has n s15.2.2.2 (1 : Int32)).bind fun v16 => if v16 ≤ s15.2.2.1 then some (.inr (s15.1, s15.2.1, s15.2.2.2)) else (E_X12_placeOf n s15.2.2.2 s15.2.2.1 s4.2.1).bind fun v18 => jn (fun (u19 : Int32) (u20 : Int32) (S21 : ST) => some (.inl (u19, u20, (s15.2.2.1 + (1 : Int32)), S21))) fun j22 => if ((v6 >>> (s15.2.2.1 &&& 31)) &&& (1 : Int32)) = 0 then j22 s15.1 s15.2.1 s15.2.2.2 else if 0 ≤ v18 then (E_X12_speaks n s15.2.2.2 s15.2.2.1 s4.2.1 a4).bind fun v25 => jn (fun (u26 : Int32) => jn (fun (u27 : Int32) => j22 u27 (s15.2.1 ||| ((1 : Int32) <<< (v18 &&& 31))) v25.2) fun j28 => if u2 = 0 then j28 u26 else (E_X12_crowdAt n v25.2 v18 s4.2.1).bind fun v30 => j28 (u26 ||| v30)) fun j31 => if v25.1 = 0 then j31 s15.1 else (E_X12_earshotOf n v25.2 v18 s4.2.1).bind fun v33 => j31 (s15.1 ||| v33) else j22 s15.1 s15.2.1 s15.2.2.2) n (e7, (0 : Int32), (0 : Int32), s4.2.2)).bind fun (e15 : Int32 × Int32 × ST) => (wr e15.2.2 148 25 (s4.2.1 + (1 : Int32)) e15.1).bind fun S34 => some (.inl ((s4.1 ||| e15.2.1), (s4.2.1 + (1 : Int32)), S34))) n ((0 : Int32), a3, S3)).bind fun (e4 : ST) => some e4) fun j35 => jn (j35 (0 : Int32)) fun j36 => if a5 = 0 then (E_X12_isShown n S1 a1).bind fun v38 => if v38 = 0 then j36 else j35 (1 : Int32) else j36
set_option maxRecDepth 100000 in
set_option maxHeartbeats 4000000 in
theorem E_X12_spreads_ok {n : Nat} (hn : 30000 ≤ n) {K : AK} {R : Nat → Nat → Option Nat} {S : ST} {a1 : Int32} {a2 : Int32} {a3 : Int32} {a4 : Int32} {a5 : Int32} {tz en : Nat} (hL : Lay K R tz en) {o : ST} (h : E_X12_spreads n S a1 a2 a3 a4 a5 = some o) : F_X12_spreads n (mkM K R S) 95 a1 a2 a3 a4 a5 = some (mkM K R o) := by
  unfold E_X12_spreads at h
  unfold F_X12_spreads
  refine ePI (kd_95 hL) (Nat.le_of_ble_eq_true rfl) h (fun S1 h => ?_)
  refine eJN (fun j35 fj35 => ∀ (u2 : Int32), j35 u2 = some o → fj35 u2 = some (mkM K R o)) h ?_ ?_
  · intro u2 h
    refine eGR (kd_95 hL) (Nat.le_of_ble_eq_true rfl) (rd_95_74 hL) ?_
    refine eWI (kd_148 hL) (Nat.le_of_ble_eq_true rfl) h (fun S3 h => ?_)
    refine eLP (fun (s4 : Int32 × Int32 × ST) => (s4.1, s4.2.1, mkM K R s4.2.2)) (fun (e4 : ST) => mkM K R e4) h rfl ?_ ?_
    · intro s4 x4 h
      refine eIF h (fun c5 h => ?_) (fun c5 h => ?_)
      · exact eLeaf (θ := (Sum.map (fun (s4 : Int32 × Int32 × ST) => (s4.1, s4.2.1, mkM K R s4.2.2)) (fun (e4 : ST) => mkM K R e4))) h rfl
      · refine eGR (kd_95 hL) (Nat.le_of_ble_eq_true rfl) (rd_95_74 hL) ?_
        refine eRI (kd_148 hL) h (fun v6 h => ?_)
        refine eLP (fun (s7 : Int32 × Int32) => s7) (fun (e7 : Int32) => e7) h rfl ?_ ?_
        · intro s7 x7 h
          refine eCV (kd_95 hL) (Nat.le_of_ble_eq_true rfl) (fun _ hv => E_X12_has_ok hn hL hv) h (fun v8 h => ?_)
          refine eIF h (fun c9 h => ?_) (fun c9 h => ?_)
          · exact eLeaf (θ := (Sum.map (fun (s7 : Int32 × Int32) => s7) (fun (e7 : Int32) => e7))) h rfl
          · refine eIF h (fun c10 h => ?_) (fun c10 h => ?_)
            · refine eJN (fun j12 fj12 => ∀ (u11 : Int32), j12 u11 = some x7 → fj12 u11 = some (Sum.map (fun (s7 : Int32 × Int32) => s7) (fun (e7 : Int32) => e7) x7)) h ?_ ?_
              · intro u11 h
                exact eLeaf (θ := (Sum.map (fun (s7 : Int32 × Int32) => s7) (fun (e7 : Int32) => e7))) h rfl
              · intro j12 fj12 Jj12 h
                refine eIF h (fun c13 h => ?_) (fun c13 h => ?_)
                · refine eCV (kd_95 hL) (Nat.le_of_ble_eq_true rfl) (fun _ hv => E_X12_crowdAt_ok hn hL hv) h (fun v14 h => ?_)
                  exact Jj12 _ h
                · exact Jj12 _ h
            · exact eLeaf (θ := (Sum.map (fun (s7 : Int32 × Int32) => s7) (fun (e7 : Int32) => e7))) h rfl
        · intro e7 h
          refine eLP (fun (s15 : Int32 × Int32 × Int32 × ST) => (s15.1, s15.2.1, s15.2.2.1, mkM K R s15.2.2.2)) (fun (e15 : Int32 × Int32 × ST) => (e15.1, e15.2.1, mkM K R e15.2.2)) h rfl ?_ ?_
          · intro s15 x15 h
            refine eCV (kd_95 hL) (Nat.le_of_ble_eq_true rfl) (fun _ hv => E_X12_has_ok hn hL hv) h (fun v16 h => ?_)
            refine eIF h (fun c17 h => ?_) (fun c17 h => ?_)
            · exact eLeaf (θ := (Sum.map (fun (s15 : Int32 × Int32 × Int32 × ST) => (s15.1, s15.2.1, s15.2.2.1, mkM K R s15.2.2.2)) (fun (e15 : Int32 × Int32 × ST) => (e15.1, e15.2.1, mkM K R e15.2.2)))) h rfl
            · refine eCV (kd_95 hL) (Nat.le_of_ble_eq_true rfl) (fun _ hv => E_X12_placeOf_ok hn hL hv) h (fun v18 h => ?_)
              refine eJN (fun j22 fj22 => ∀ (u19 : Int32) (u20 : Int32) (S21 : ST), j22 u19 u20 S21 = some x15 → fj22 u19 u20 (mkM K R S21) = some (Sum.map (fun (s15 : Int32 × Int32 × Int32 × ST) => (s15.1, s15.2.1, s15.2.2.1, mkM K R s15.2.2.2)) (fun (e15 : Int32 × Int32 × ST) => (e15.1, e15.2.1, mkM K R e15.2.2)) x15)) h ?_ ?_
              · intro u19 u20 S21 h
                exact eLeaf (θ := (Sum.map (fun (s15 : Int32 × Int32 × Int32 × ST) => (s15.1, s15.2.1, s15.2.2.1, mkM K R s15.2.2.2)) (fun (e15 : Int32 × Int32 × ST) => (e15.1, e15.2.1, mkM K R e15.2.2)))) h rfl
              · intro j22 fj22 Jj22 h
                refine eIF h (fun c23 h => ?_) (fun c23 h => ?_)
                · exact Jj22 _ _ _ h
                · refine eIF h (fun c24 h => ?_) (fun c24 h => ?_)
                  · refine eCwiV (kd_95 hL) (Nat.le_of_ble_eq_true rfl) (fun _ hv => E_X12_speaks_ok hn hL hv) h (fun v25 h => ?_)
                    refine eJN (fun j31 fj31 => ∀ (u26 : Int32), j31 u26 = some x15 → fj31 u26 = some (Sum.map (fun (s15 : Int32 × Int32 × Int32 × ST) => (s15.1, s15.2.1, s15.2.2.1, mkM K R s15.2.2.2)) (fun (e15 : Int32 × Int32 × ST) => (e15.1, e15.2.1, mkM K R e15.2.2)) x15)) h ?_ ?_
                    · intro u26 h
                      refine eJN (fun j28 fj28 => ∀ (u27 : Int32), j28 u27 = some x15 → fj28 u27 = some (Sum.map (fun (s15 : Int32 × Int32 × Int32 × ST) => (s15.1, s15.2.1, s15.2.2.1, mkM K R s15.2.2.2)) (fun (e15 : Int32 × Int32 × ST) => (e15.1, e15.2.1, mkM K R e15.2.2)) x15)) h ?_ ?_
                      · intro u27 h
                        exact Jj22 _ _ _ h
                      · intro j28 fj28 Jj28 h
                        refine eIF h (fun c29 h => ?_) (fun c29 h => ?_)
                        · exact Jj28 _ h
                        · refine eCV (kd_95 hL) (Nat.le_of_ble_eq_true rfl) (fun _ hv => E_X12_crowdAt_ok hn hL hv) h (fun v30 h => ?_)
                          exact Jj28 _ h
                    · intro j31 fj31 Jj31 h
                      refine eIF h (fun c32 h => ?_) (fun c32 h => ?_)
                      · exact Jj31 _ h
                      · refine eCV (kd_95 hL) (Nat.le_of_ble_eq_true rfl) (fun _ hv => E_X12_earshotOf_ok hn hL hv) h (fun v33 h => ?_)
                        exact Jj31 _ h
                  · exact Jj22 _ _ _ h
          · intro e15 h
            refine eGR (kd_95 hL) (Nat.le_of_ble_eq_true rfl) (rd_95_74 hL) ?_
            refine eWI (kd_148 hL) (Nat.le_of_ble_eq_true rfl) h (fun S34 h => ?_)
            exact eLeaf (θ := (Sum.map (fun (s4 : Int32 × Int32 × ST) => (s4.1, s4.2.1, mkM K R s4.2.2)) (fun (e4 : ST) => mkM K R e4))) h rfl
    · intro e4 h
      exact eLeaf (θ := (fun (o : ST) => (mkM K R o))) h rfl
  · intro j35 fj35 Jj35 h
    refine eJN (fun j36 fj36 => j36 = some o → fj36 = some (mkM K R o)) h ?_ ?_
    · intro h
      exact Jj35 _ h
    · intro j36 fj36 Jj36 h
      refine eIF h (fun c37 h => ?_) (fun c37 h => ?_)
      · refine eCV (kd_95 hL) (Nat.le_of_ble_eq_true rfl) (fun _ hv => E_X12_isShown_ok hn hL hv) h (fun v38 h => ?_)
        refine eIF h (fun c39 h => ?_) (fun c39 h => ?_)
        · exact Jj36 h
        · exact Jj35 _ h
      · exact Jj36 h
-- OnlyUpwardModel.soonOf(II)I
set_option maxRecDepth 100000 in
set_option maxHeartbeats 4000000 in
def E_X12_soonOf (n : Nat) (S : ST) (a1 : Int32) (a2 : Int32) : Option Int32 :=
  (iter (fun (s1 : Int32) => if (25 : Int32) ≤ s1 then some (.inr (.inl ())) else (rd (S.1 148) 25 s1).bind fun v3 => if ((v3 >>> (a1 &&& 31)) &&& (1 : Int32)) = (1 : Int32) then some (.inr (.inr s1)) else some (.inl (s1 + (1 : Int32)))) n a2).bind fun (z1 : (Unit) ⊕ Int32) => Sum.elim (fun (e1 : Unit) => some (-2 : Int32)) (fun (v : Int32) => some v) z1
set_option maxRecDepth 100000 in
set_option maxHeartbeats 4000000 in
theorem E_X12_soonOf_ok {n : Nat} (hn : 30000 ≤ n) {K : AK} {R : Nat → Nat → Option Nat} {S : ST} {a1 : Int32} {a2 : Int32} {tz en : Nat} (hL : Lay K R tz en) {o : Int32} (h : E_X12_soonOf n S a1 a2 = some o) : F_X12_soonOf n (mkM K R S) 95 a1 a2 = some o := by
  unfold E_X12_soonOf at h
  unfold F_X12_soonOf
  refine eLP (fun (s1 : Int32) => s1) (Sum.map (fun (e1 : Unit) => e1) (fun (v : Int32) => v)) h rfl ?_ ?_
  · intro s1 x1 h
    refine eIF h (fun c2 h => ?_) (fun c2 h => ?_)
    · exact eLeaf (θ := (Sum.map (fun (s1 : Int32) => s1) (Sum.map (fun (e1 : Unit) => e1) (fun (v : Int32) => v)))) h rfl
    · refine eGR (kd_95 hL) (Nat.le_of_ble_eq_true rfl) (rd_95_74 hL) ?_
      refine eRI (kd_148 hL) h (fun v3 h => ?_)
      refine eIF h (fun c4 h => ?_) (fun c4 h => ?_)
      · exact eLeaf (θ := (Sum.map (fun (s1 : Int32) => s1) (Sum.map (fun (e1 : Unit) => e1) (fun (v : Int32) => v)))) h rfl
      · exact eLeaf (θ := (Sum.map (fun (s1 : Int32) => s1) (Sum.map (fun (e1 : Unit) => e1) (fun (v : Int32) => v)))) h rfl
  · intro z1 h
    rcases z1 with e1 | v
    · have h := sum_inl h
      exact eLeaf (θ := (fun (o : Int32) => o)) h rfl
    · have h := sum_inr h
      exact eLeaf (θ := (fun (o : Int32) => o)) h rfl
-- OnlyUpwardModel.soon(IIIIIZ)I
set_option maxRecDepth 100000 in
set_option maxHeartbeats 4000000 in
def E_X12_soon (n : Nat) (S : ST) (a1 : Int32) (a2 : Int32) (a3 : Int32) (a4 : Int32) (a5 : Int32) (a6 : Int32) : Option (Int32 × ST) :=
  (E_X12_isPerson n S a1).bind fun v1 => if v1 = 0 then some ((-1 : Int32), S) else (E_X12_isSoon n S a2 a3 a4 a5).bind fun v3 => if v3 = 0 then some ((-1 : Int32), S) else (E_X12_spreads n S a2 a3 a4 a5 a6).bind fun S6 => (E_X12_soonOf n S6 a1 a4).bind fun v7 => some (v7, S6)
set_option maxRecDepth 100000 in
set_option maxHeartbeats 4000000 in
theorem E_X12_soon_ok {n : Nat} (hn : 30000 ≤ n) {K : AK} {R : Nat → Nat → Option Nat} {S : ST} {a1 : Int32} {a2 : Int32} {a3 : Int32} {a4 : Int32} {a5 : Int32} {a6 : Int32} {tz en : Nat} (hL : Lay K R tz en) {o : (Int32 × ST)} (h : E_X12_soon n S a1 a2 a3 a4 a5 a6 = some o) : F_X12_soon n (mkM K R S) 95 a1 a2 a3 a4 a5 a6 = some (o.1, mkM K R o.2) := by
  unfold E_X12_soon at h
  unfold F_X12_soon
  refine eCV (kd_95 hL) (Nat.le_of_ble_eq_true rfl) (fun _ hv => E_X12_isPerson_ok hn hL hv) h (fun v1 h => ?_)
  refine eIF h (fun c2 h => ?_) (fun c2 h => ?_)
  · exact eLeaf (θ := (fun (o : (Int32 × ST)) => (o.1, mkM K R o.2))) h rfl
  · refine eCV (kd_95 hL) (Nat.le_of_ble_eq_true rfl) (fun _ hv => E_X12_isSoon_ok hn hL hv) h (fun v3 h => ?_)
    refine eIF h (fun c4 h => ?_) (fun c4 h => ?_)
    · exact eLeaf (θ := (fun (o : (Int32 × ST)) => (o.1, mkM K R o.2))) h rfl
    · refine eCwV (kd_95 hL) (Nat.le_of_ble_eq_true rfl) (fun _ hv => E_X12_spreads_ok hn hL hv) h (fun S6 h => ?_)
      refine eCV (kd_95 hL) (Nat.le_of_ble_eq_true rfl) (fun _ hv => E_X12_soonOf_ok hn hL hv) h (fun v7 h => ?_)
      exact eLeaf (θ := (fun (o : (Int32 × ST)) => (o.1, mkM K R o.2))) h rfl
-- OnlyUpwardModel.all(IIIIZ)I
set_option maxRecDepth 100000 in
set_option maxHeartbeats 4000000 in
def E_X12_all (n : Nat) (S : ST) (a1 : Int32) (a2 : Int32) (a3 : Int32) (a4 : Int32) (a5 : Int32) : Option (Int32 × ST) :=
  (E_X12_isSoon n S a1 a2 a3 a4).bind fun v1 => if v1 = 0 then some ((-1 : Int32), S) else (E_X12_spreads n S a1 a2 a3 a4 a5).bind fun S4 => (iter (fun (s5 : Int32) => if (25 : Int32) ≤ s5 then some (.inr (.inl ())) else (rd (S4.1 148) 25 s5).bind fun v7 => (E_X12_has n S4 (1 : Int32)).bind fun v8 => if v7 = (((1 : Int32) <<< (v8 &&& 31)) - (1 : Int32)) then some (.inr (.inr (s5, S4))) else some (.inl (s5 + (1 : Int32)))) n a3).bind fun (z5 : (Unit) ⊕ (Int32 × ST)) => Sum.elim (fun (e5 : Unit) => some ((-2 : Int32), S4)) (fun (v : (Int32 × ST)) => some v) z5
set_option maxRecDepth 100000 in
set_option maxHeartbeats 4000000 in
theorem E_X12_all_ok {n : Nat} (hn : 30000 ≤ n) {K : AK} {R : Nat → Nat → Option Nat} {S : ST} {a1 : Int32} {a2 : Int32} {a3 : Int32} {a4 : Int32} {a5 : Int32} {tz en : Nat} (hL : Lay K R tz en) {o : (Int32 × ST)} (h : E_X12_all n S a1 a2 a3 a4 a5 = some o) : F_X12_all n (mkM K R S) 95 a1 a2 a3 a4 a5 = some (o.1, mkM K R o.2) := by
  unfold E_X12_all at h
  unfold F_X12_all
  refine eCV (kd_95 hL) (Nat.le_of_ble_eq_true rfl) (fun _ hv => E_X12_isSoon_ok hn hL hv) h (fun v1 h => ?_)
  refine eIF h (fun c2 h => ?_) (fun c2 h => ?_)
  · exact eLeaf (θ := (fun (o : (Int32 × ST)) => (o.1, mkM K R o.2))) h rfl
  · refine eCwV (kd_95 hL) (Nat.le_of_ble_eq_true rfl) (fun _ hv => E_X12_spreads_ok hn hL hv) h (fun S4 h => ?_)
    refine eLP (fun (s5 : Int32) => s5) (Sum.map (fun (e5 : Unit) => e5) (fun (v : (Int32 × ST)) => (v.1, mkM K R v.2))) h rfl ?_ ?_
    · intro s5 x5 h
      refine eIF h (fun c6 h => ?_) (fun c6 h => ?_)
      · exact eLeaf (θ := (Sum.map (fun (s5 : Int32) => s5) (Sum.map (fun (e5 : Unit) => e5) (fun (v : (Int32 × ST)) => (v.1, mkM K R v.2))))) h rfl
      · refine eGR (kd_95 hL) (Nat.le_of_ble_eq_true rfl) (rd_95_74 hL) ?_
        refine eRI (kd_148 hL) h (fun v7 h => ?_)
        refine eCV (kd_95 hL) (Nat.le_of_ble_eq_true rfl) (fun _ hv => E_X12_has_ok hn hL hv) h (fun v8 h => ?_)
        refine eIF h (fun c9 h => ?_) (fun c9 h => ?_)
        · exact eLeaf (θ := (Sum.map (fun (s5 : Int32) => s5) (Sum.map (fun (e5 : Unit) => e5) (fun (v : (Int32 × ST)) => (v.1, mkM K R v.2))))) h rfl
        · exact eLeaf (θ := (Sum.map (fun (s5 : Int32) => s5) (Sum.map (fun (e5 : Unit) => e5) (fun (v : (Int32 × ST)) => (v.1, mkM K R v.2))))) h rfl
    · intro z5 h
      rcases z5 with e5 | v
      · have h := sum_inl h
        exact eLeaf (θ := (fun (o : (Int32 × ST)) => (o.1, mkM K R o.2))) h rfl
      · have h := sum_inr h
        exact eLeaf (θ := (fun (o : (Int32 × ST)) => (o.1, mkM K R o.2))) h rfl
-- java/lang/Integer.numberOfTrailingZeros(I)I
set_option maxRecDepth 100000 in
set_option maxHeartbeats 4000000 in
def E_J6_numberOfTrailingZeros_0f7a4 (n : Nat) (S : ST) (a0 : Int32) : Option Int32 :=
  lets ((a0 ^^^ (-1 : Int32)) &&& (a0 - (1 : Int32))) fun (w1 : Int32) => if 0 < w1 then jn (fun (u3 : Int32) (u4 : Int32) => jn (fun (u5 : Int32) (u6 : Int32) => jn (fun (u7 : Int32) (u8 : Int32) => jn (fun (u9 : Int32) (u10 : Int32) => some (u10 + (ush u9 (1 : Int32)))) fun j11 => if u7 ≤ (4 : Int32) then j11 u7 u8 else j11 (ush u7 (2 : Int32)) (u8 + (2 : Int32))) fun j13 => if u5 ≤ (16 : Int32) then j13 u5 u6 else j13 (ush u5 (4 : Int32)) (u6 + (4 : Int32))) fun j15 => if u3 ≤ (256 : Int32) then j15 u3 u4 else j15 (ush u3 (8 : Int32)) (u4 + (8 : Int32))) fun j17 => if w1 ≤ (65536 : Int32) then j17 w1 (1 : Int32) else j17 (ush w1 (16 : Int32)) ((1 : Int32) + (16 : Int32)) else some (w1 &&& (32 : Int32))
set_option maxRecDepth 100000 in
set_option maxHeartbeats 4000000 in
theorem E_J6_numberOfTrailingZeros_0f7a4_ok {n : Nat} (hn : 30000 ≤ n) {K : AK} {R : Nat → Nat → Option Nat} {S : ST} {a0 : Int32} {tz en : Nat} (hL : Lay K R tz en) {o : Int32} (h : E_J6_numberOfTrailingZeros_0f7a4 n S a0 = some o) : F_J6_numberOfTrailingZeros_0f7a4 n (mkM K R S) a0 = some o := by
  unfold E_J6_numberOfTrailingZeros_0f7a4 at h
  unfold F_J6_numberOfTrailingZeros_0f7a4
  refine eLT h (fun w1 h => ?_)
  refine eIF h (fun c2 h => ?_) (fun c2 h => ?_)
  · refine eJN (fun j17 fj17 => ∀ (u3 : Int32) (u4 : Int32), j17 u3 u4 = some o → fj17 u3 u4 = some o) h ?_ ?_
    · intro u3 u4 h
      refine eJN (fun j15 fj15 => ∀ (u5 : Int32) (u6 : Int32), j15 u5 u6 = some o → fj15 u5 u6 = some o) h ?_ ?_
      · intro u5 u6 h
        refine eJN (fun j13 fj13 => ∀ (u7 : Int32) (u8 : Int32), j13 u7 u8 = some o → fj13 u7 u8 = some o) h ?_ ?_
        · intro u7 u8 h
          refine eJN (fun j11 fj11 => ∀ (u9 : Int32) (u10 : Int32), j11 u9 u10 = some o → fj11 u9 u10 = some o) h ?_ ?_
          · intro u9 u10 h
            exact eLeaf (θ := (fun (o : Int32) => o)) h rfl
          · intro j11 fj11 Jj11 h
            refine eIF h (fun c12 h => ?_) (fun c12 h => ?_)
            · exact Jj11 _ _ h
            · exact Jj11 _ _ h
        · intro j13 fj13 Jj13 h
          refine eIF h (fun c14 h => ?_) (fun c14 h => ?_)
          · exact Jj13 _ _ h
          · exact Jj13 _ _ h
      · intro j15 fj15 Jj15 h
        refine eIF h (fun c16 h => ?_) (fun c16 h => ?_)
        · exact Jj15 _ _ h
        · exact Jj15 _ _ h
    · intro j17 fj17 Jj17 h
      refine eIF h (fun c18 h => ?_) (fun c18 h => ?_)
      · exact Jj17 _ _ h
      · exact Jj17 _ _ h
  · exact eLeaf (θ := (fun (o : Int32) => o)) h rfl
-- OnlyUpwardModel.isCheap(IIII)Z
set_option maxRecDepth 100000 in
set_option maxHeartbeats 4000000 in
def E_X12_isCheap (n : Nat) (S : ST) (a1 : Int32) (a2 : Int32) (a3 : Int32) (a4 : Int32) : Option Int32 :=
  (E_X12_isPerson n S a1).bind fun v1 => if v1 = 0 then some (0 : Int32) else (E_X12_isSoon n S a2 a3 a4 (0 : Int32)).bind fun v3 => if v3 = 0 then some (0 : Int32) else some (1 : Int32)
set_option maxRecDepth 100000 in
set_option maxHeartbeats 4000000 in
theorem E_X12_isCheap_ok {n : Nat} (hn : 30000 ≤ n) {K : AK} {R : Nat → Nat → Option Nat} {S : ST} {a1 : Int32} {a2 : Int32} {a3 : Int32} {a4 : Int32} {tz en : Nat} (hL : Lay K R tz en) {o : Int32} (h : E_X12_isCheap n S a1 a2 a3 a4 = some o) : F_X12_isCheap n (mkM K R S) 95 a1 a2 a3 a4 = some o := by
  unfold E_X12_isCheap at h
  unfold F_X12_isCheap
  refine eCV (kd_95 hL) (Nat.le_of_ble_eq_true rfl) (fun _ hv => E_X12_isPerson_ok hn hL hv) h (fun v1 h => ?_)
  refine eIF h (fun c2 h => ?_) (fun c2 h => ?_)
  · exact eLeaf (θ := (fun (o : Int32) => o)) h rfl
  · refine eCV (kd_95 hL) (Nat.le_of_ble_eq_true rfl) (fun _ hv => E_X12_isSoon_ok hn hL hv) h (fun v3 h => ?_)
    refine eIF h (fun c4 h => ?_) (fun c4 h => ?_)
    · exact eLeaf (θ := (fun (o : Int32) => o)) h rfl
    · exact eLeaf (θ := (fun (o : Int32) => o)) h rfl
-- OnlyUpwardModel.option(IIII)V
set_option maxRecDepth 100000 in
set_option maxHeartbeats 4000000 in
def E_X12_option (n : Nat) (S : ST) (a1 : Int32) (a2 : Int32) (a3 : Int32) (a4 : Int32) : Option ST :=
  (wr S 150 160 (S.1 95 76) a1).bind fun S1 => (wr S1 151 160 (S1.1 95 76) a2).bind fun S2 => (wr S2 152 160 (S2.1 95 76) a3).bind fun S3 => (wr S3 153 160 (S3.1 95 76) a4).bind fun S4 => lets (upI S4 95 76 ((S4.1 95 76) + (1 : Int32))) fun (S5 : ST) => some S5
set_option maxRecDepth 100000 in
set_option maxHeartbeats 4000000 in
theorem E_X12_option_ok {n : Nat} (hn : 30000 ≤ n) {K : AK} {R : Nat → Nat → Option Nat} {S : ST} {a1 : Int32} {a2 : Int32} {a3 : Int32} {a4 : Int32} {tz en : Nat} (hL : Lay K R tz en) {o : ST} (h : E_X12_option n S a1 a2 a3 a4 = some o) : F_X12_option n (mkM K R S) 95 a1 a2 a3 a4 = some (mkM K R o) := by
  unfold E_X12_option at h
  unfold F_X12_option
  refine eGR (kd_95 hL) (Nat.le_of_ble_eq_true rfl) (rd_95_77 hL) ?_
  refine eGI (kd_95 hL) (Nat.le_of_ble_eq_true rfl) ?_
  refine eWI (kd_150 hL) (Nat.le_of_ble_eq_true rfl) h (fun S1 h => ?_)
  refine eGR (kd_95 hL) (Nat.le_of_ble_eq_true rfl) (rd_95_78 hL) ?_
  refine eGI (kd_95 hL) (Nat.le_of_ble_eq_true rfl) ?_
  refine eWI (kd_151 hL) (Nat.le_of_ble_eq_true rfl) h (fun S2 h => ?_)
  refine eGR (kd_95 hL) (Nat.le_of_ble_eq_true rfl) (rd_95_79 hL) ?_
  refine eGI (kd_95 hL) (Nat.le_of_ble_eq_true rfl) ?_
  refine eWI (kd_152 hL) (Nat.le_of_ble_eq_true rfl) h (fun S3 h => ?_)
  refine eGR (kd_95 hL) (Nat.le_of_ble_eq_true rfl) (rd_95_80 hL) ?_
  refine eGI (kd_95 hL) (Nat.le_of_ble_eq_true rfl) ?_
  refine eWI (kd_153 hL) (Nat.le_of_ble_eq_true rfl) h (fun S4 h => ?_)
  refine eGI (kd_95 hL) (Nat.le_of_ble_eq_true rfl) ?_
  refine ePI (kd_95 hL) (Nat.le_of_ble_eq_true rfl) h (fun S5 h => ?_)
  exact eLeaf (θ := (fun (o : ST) => (mkM K R o))) h rfl
-- OnlyUpwardModel.optionsAt(II)V
set_option maxRecDepth 100000 in
set_option maxHeartbeats 4000000 in
def E_X12_optionsAt (n : Nat) (S : ST) (a1 : Int32) (a2 : Int32) : Option ST :=
  lets (upI S 95 76 (0 : Int32)) fun (S1 : ST) => (iter (fun (s2 : Int32 × ST) => (E_X12_has n s2.2 (1 : Int32)).bind fun v3 => if v3 ≤ s2.1 then some (.inr s2.2) else (iter (fun (s5 : Int32 × ST) => (E_X12_has n s5.2 (1 : Int32)).bind fun v6 => if v6 ≤ s5.1 then some (.inr s5.2) else (E_X12_mayBy n s5.2 s2.1 s5.1 a1 (0 : Int32) (0 : Int32)).bind fun v8 => jn (fun (S9 : ST) => some (.inl ((s5.1 + (1 : Int32)), S9))) fun j10 => if v8.1 = 0 then j10 v8.2 else (E_X12_placeOf n v8.2 s2.1 a1).bind fun v12 => (E_X12_earshotOf n v8.2 v12 a1).bind fun v13 => (E_X12_option n v8.2 (0 : Int32) s2.1 s5.1 v13).bind fun S15 => j10 S15) n ((0 : Int32), s2.2)).bind fun (e5 : ST) => some (.inl ((s2.1 + (1 : Int32)), e5))) n ((0 : Int32), S1)).bind fun (e2 : ST) => (iter (fun (s16 : Int32 × ST) => (E_X12_has n s16.2 (1 : Int32)).bind fun v17 => if v17 ≤ s16.1 then some (.inr s16.2) else (iter (fun (s19 : Int32 × ST) => (E_X12_has n s19.2 (7 : Int32)).bind fun v20 => if v20 ≤ s19.1 then some (.inr s19.2) else (rd (s19.2.1 122) 12 (((6 : Int32) * (s19.2.1 95 18)) + s19.1)).bind fun v22 => jn (fun (S23 : ST) => some (.inl ((s19.1 + (1 : Int32)), S23))) fun j24 => if v22 = a2 then (E_X12_placeOf n s19.2 s16.1 a1).bind fun v26 => if 0 ≤ v26 then (E_X12_placeOf n s19.2 s16.1 a1).bind fun v28 => (E_X12_crowdAt n s19.2 v28 a1).bind fun v29 => (E_X12_option n s19.2 (1 : Int32) s16.1 s19.1 v29).bind fun S31 => j24 S31 else j24 s19.2 else j24 s19.2) n ((0 : Int32), s16.2)).bind fun (e19 : ST) => some (.inl ((s16.1 + (1 : Int32)), e19))) n ((0 : Int32), e2)).bind fun (e16 : ST) => some e16
set_option maxRecDepth 100000 in
set_option maxHeartbeats 4000000 in
theorem E_X12_optionsAt_ok {n : Nat} (hn : 30000 ≤ n) {K : AK} {R : Nat → Nat → Option Nat} {S : ST} {a1 : Int32} {a2 : Int32} {tz en : Nat} (hL : Lay K R tz en) {o : ST} (h : E_X12_optionsAt n S a1 a2 = some o) : F_X12_optionsAt n (mkM K R S) 95 a1 a2 = some (mkM K R o) := by
  unfold E_X12_optionsAt at h
  unfold F_X12_optionsAt
  refine ePI (kd_95 hL) (Nat.le_of_ble_eq_true rfl) h (fun S1 h => ?_)
  refine eLP (fun (s2 : Int32 × ST) => (s2.1, mkM K R s2.2)) (fun (e2 : ST) => mkM K R e2) h rfl ?_ ?_
  · intro s2 x2 h
    refine eCV (kd_95 hL) (Nat.le_of_ble_eq_true rfl) (fun _ hv => E_X12_has_ok hn hL hv) h (fun v3 h => ?_)
    refine eIF h (fun c4 h => ?_) (fun c4 h => ?_)
    · exact eLeaf (θ := (Sum.map (fun (s2 : Int32 × ST) => (s2.1, mkM K R s2.2)) (fun (e2 : ST) => mkM K R e2))) h rfl
    · refine eLP (fun (s5 : Int32 × ST) => (s5.1, mkM K R s5.2)) (fun (e5 : ST) => mkM K R e5) h rfl ?_ ?_
      · intro s5 x5 h
        refine eCV (kd_95 hL) (Nat.le_of_ble_eq_true rfl) (fun _ hv => E_X12_has_ok hn hL hv) h (fun v6 h => ?_)
        refine eIF h (fun c7 h => ?_) (fun c7 h => ?_)
        · exact eLeaf (θ := (Sum.map (fun (s5 : Int32 × ST) => (s5.1, mkM K R s5.2)) (fun (e5 : ST) => mkM K R e5))) h rfl
        · refine eCwiV (kd_95 hL) (Nat.le_of_ble_eq_true rfl) (fun _ hv => E_X12_mayBy_ok hn hL hv) h (fun v8 h => ?_)
          refine eJN (fun j10 fj10 => ∀ (S9 : ST), j10 S9 = some x5 → fj10 (mkM K R S9) = some (Sum.map (fun (s5 : Int32 × ST) => (s5.1, mkM K R s5.2)) (fun (e5 : ST) => mkM K R e5) x5)) h ?_ ?_
          · intro S9 h
            exact eLeaf (θ := (Sum.map (fun (s5 : Int32 × ST) => (s5.1, mkM K R s5.2)) (fun (e5 : ST) => mkM K R e5))) h rfl
          · intro j10 fj10 Jj10 h
            refine eIF h (fun c11 h => ?_) (fun c11 h => ?_)
            · exact Jj10 _ h
            · refine eCV (kd_95 hL) (Nat.le_of_ble_eq_true rfl) (fun _ hv => E_X12_placeOf_ok hn hL hv) h (fun v12 h => ?_)
              refine eCV (kd_95 hL) (Nat.le_of_ble_eq_true rfl) (fun _ hv => E_X12_earshotOf_ok hn hL hv) h (fun v13 h => ?_)
              refine eCwV (kd_95 hL) (Nat.le_of_ble_eq_true rfl) (fun _ hv => E_X12_option_ok hn hL hv) h (fun S15 h => ?_)
              exact Jj10 _ h
      · intro e5 h
        exact eLeaf (θ := (Sum.map (fun (s2 : Int32 × ST) => (s2.1, mkM K R s2.2)) (fun (e2 : ST) => mkM K R e2))) h rfl
  · intro e2 h
    refine eLP (fun (s16 : Int32 × ST) => (s16.1, mkM K R s16.2)) (fun (e16 : ST) => mkM K R e16) h rfl ?_ ?_
    · intro s16 x16 h
      refine eCV (kd_95 hL) (Nat.le_of_ble_eq_true rfl) (fun _ hv => E_X12_has_ok hn hL hv) h (fun v17 h => ?_)
      refine eIF h (fun c18 h => ?_) (fun c18 h => ?_)
      · exact eLeaf (θ := (Sum.map (fun (s16 : Int32 × ST) => (s16.1, mkM K R s16.2)) (fun (e16 : ST) => mkM K R e16))) h rfl
      · refine eLP (fun (s19 : Int32 × ST) => (s19.1, mkM K R s19.2)) (fun (e19 : ST) => mkM K R e19) h rfl ?_ ?_
        · intro s19 x19 h
          refine eCV (kd_95 hL) (Nat.le_of_ble_eq_true rfl) (fun _ hv => E_X12_has_ok hn hL hv) h (fun v20 h => ?_)
          refine eIF h (fun c21 h => ?_) (fun c21 h => ?_)
          · exact eLeaf (θ := (Sum.map (fun (s19 : Int32 × ST) => (s19.1, mkM K R s19.2)) (fun (e19 : ST) => mkM K R e19))) h rfl
          · refine eGR (kd_95 hL) (Nat.le_of_ble_eq_true rfl) (rd_95_40 hL) ?_
            refine eGI (kd_95 hL) (Nat.le_of_ble_eq_true rfl) ?_
            refine eRI (kd_122 hL) h (fun v22 h => ?_)
            refine eJN (fun j24 fj24 => ∀ (S23 : ST), j24 S23 = some x19 → fj24 (mkM K R S23) = some (Sum.map (fun (s19 : Int32 × ST) => (s19.1, mkM K R s19.2)) (fun (e19 : ST) => mkM K R e19) x19)) h ?_ ?_
            · intro S23 h
              exact eLeaf (θ := (Sum.map (fun (s19 : Int32 × ST) => (s19.1, mkM K R s19.2)) (fun (e19 : ST) => mkM K R e19))) h rfl
            · intro j24 fj24 Jj24 h
              refine eIF h (fun c25 h => ?_) (fun c25 h => ?_)
              · refine eCV (kd_95 hL) (Nat.le_of_ble_eq_true rfl) (fun _ hv => E_X12_placeOf_ok hn hL hv) h (fun v26 h => ?_)
                refine eIF h (fun c27 h => ?_) (fun c27 h => ?_)
                · refine eCV (kd_95 hL) (Nat.le_of_ble_eq_true rfl) (fun _ hv => E_X12_placeOf_ok hn hL hv) h (fun v28 h => ?_)
                  refine eCV (kd_95 hL) (Nat.le_of_ble_eq_true rfl) (fun _ hv => E_X12_crowdAt_ok hn hL hv) h (fun v29 h => ?_)
                  refine eCwV (kd_95 hL) (Nat.le_of_ble_eq_true rfl) (fun _ hv => E_X12_option_ok hn hL hv) h (fun S31 h => ?_)
                  exact Jj24 _ h
                · exact Jj24 _ h
              · exact Jj24 _ h
        · intro e19 h
          exact eLeaf (θ := (Sum.map (fun (s16 : Int32 × ST) => (s16.1, mkM K R s16.2)) (fun (e16 : ST) => mkM K R e16))) h rfl
    · intro e16 h
      exact eLeaf (θ := (fun (o : ST) => (mkM K R o))) h rfl
-- OnlyUpwardModel.canTake(II)Z
set_option maxRecDepth 100000 in
set_option maxHeartbeats 4000000 in
def E_X12_canTake (n : Nat) (S : ST) (a1 : Int32) (a2 : Int32) : Option Int32 :=
  (rd (S.1 151) 160 a1).bind fun v1 => if ((a2 >>> (v1 &&& 31)) &&& (1 : Int32)) = (1 : Int32) then some (1 : Int32) else some (0 : Int32)
set_option maxRecDepth 100000 in
set_option maxHeartbeats 4000000 in
theorem E_X12_canTake_ok {n : Nat} (hn : 30000 ≤ n) {K : AK} {R : Nat → Nat → Option Nat} {S : ST} {a1 : Int32} {a2 : Int32} {tz en : Nat} (hL : Lay K R tz en) {o : Int32} (h : E_X12_canTake n S a1 a2 = some o) : F_X12_canTake n (mkM K R S) 95 a1 a2 = some o := by
  unfold E_X12_canTake at h
  unfold F_X12_canTake
  refine eGR (kd_95 hL) (Nat.le_of_ble_eq_true rfl) (rd_95_78 hL) ?_
  refine eRI (kd_151 hL) h (fun v1 h => ?_)
  refine eIF h (fun c2 h => ?_) (fun c2 h => ?_)
  · exact eLeaf (θ := (fun (o : Int32) => o)) h rfl
  · exact eLeaf (θ := (fun (o : Int32) => o)) h rfl
-- OnlyUpwardModel.price(I)I
set_option maxRecDepth 100000 in
set_option maxHeartbeats 4000000 in
def E_X12_price (n : Nat) (S : ST) (a1 : Int32) : Option Int32 :=
  (rd (S.1 150) 160 a1).bind fun v1 => (rd (S.1 152) 160 a1).bind fun v2 => (E_X12_costOf n S v1 v2).bind fun v3 => some (((1000 : Int32) * v3) + (1 : Int32))
set_option maxRecDepth 100000 in
set_option maxHeartbeats 4000000 in
theorem E_X12_price_ok {n : Nat} (hn : 30000 ≤ n) {K : AK} {R : Nat → Nat → Option Nat} {S : ST} {a1 : Int32} {tz en : Nat} (hL : Lay K R tz en) {o : Int32} (h : E_X12_price n S a1 = some o) : F_X12_price n (mkM K R S) 95 a1 = some o := by
  unfold E_X12_price at h
  unfold F_X12_price
  refine eGR (kd_95 hL) (Nat.le_of_ble_eq_true rfl) (rd_95_77 hL) ?_
  refine eRI (kd_150 hL) h (fun v1 h => ?_)
  refine eGR (kd_95 hL) (Nat.le_of_ble_eq_true rfl) (rd_95_79 hL) ?_
  refine eRI (kd_152 hL) h (fun v2 h => ?_)
  refine eCV (kd_95 hL) (Nat.le_of_ble_eq_true rfl) (fun _ hv => E_X12_costOf_ok hn hL hv) h (fun v3 h => ?_)
  exact eLeaf (θ := (fun (o : Int32) => o)) h rfl
-- OnlyUpwardModel.cheapens(III)V
set_option maxRecDepth 100000 in
set_option maxHeartbeats 4000000 in
def E_X12_cheapens (n : Nat) (S : ST) (a1 : Int32) (a2 : Int32) (a3 : Int32) : Option ST :=
  lets (upI S 95 61 (0 : Int32)) fun (S1 : ST) => (E_X12_has n S1 (1 : Int32)).bind fun v2 => (iter (fun (s3 : Int32 × ST) => if s3.1 < a3 then some (.inr s3.2) else jn (fun (S5 : ST) => (iter (fun (s6 : Int32 × ST) => if ((1 : Int32) <<< (v2 &&& 31)) ≤ s6.1 then some (.inr s6.2) else jn (fun (u8 : Int32) => jn (fun (u9 : Int32) => (wr s6.2 149 25600 (((1024 : Int32) * s3.1) + s6.1) u9).bind fun S10 => some (.inl ((s6.1 + (1 : Int32)), S10))) fun j11 => if (24 : Int32) ≤ s3.1 then j11 u8 else if ((s6.1 >>> (a1 &&& 31)) &&& (1 : Int32)) = 0 then (iter (fun (s14 : Int32 × Int32) => if (s6.2.1 95 76) ≤ s14.2 then some (.inr s14.1) else (E_X12_canTake n s6.2 s14.2 s6.1).bind fun v16 => jn (fun (u17 : Int32) => some (.inl (u17, (s14.2 + (1 : Int32))))) fun j18 => if v16 = 0 then j18 s14.1 else (rd (s6.2.1 153) 160 s14.2).bind fun v20 => (rd (s6.2.1 149) 25600 ((((1024 : Int32) * s3.1) + (1024 : Int32)) + (s6.1 ||| v20))).bind fun v21 => if v21 = (-1 : Int32) then j18 s14.1 else jn ((E_X12_price n s6.2 s14.2).bind fun v23 => j18 (v21 + v23)) fun j24 => if s14.1 = (-1 : Int32) then j24 else (E_X12_price n s6.2 s14.2).bind fun v26 => if s14.1 ≤ (v21 + v26) then j18 s14.1 else j24) n (u8, (0 : Int32))).bind fun (e14 : Int32) => j11 e14 else j11 u8) fun j28 => if ((s6.1 >>> (a1 &&& 31)) &&& (1 : Int32)) = (1 : Int32) then j28 (0 : Int32) else if s3.1 = (24 : Int32) then j28 (-1 : Int32) else (rd (s6.2.1 149) 25600 ((((1024 : Int32) * s3.1) + (1024 : Int32)) + s6.1)).bind fun v31 => j28 v31) n ((0 : Int32), S5)).bind fun (e6 : ST) => some (.inl ((s3.1 + (-1 : Int32)), e6))) fun j32 => if (24 : Int32) ≤ s3.1 then j32 s3.2 else (E_X12_optionsAt n s3.2 s3.1 a2).bind fun S35 => j32 S35) n ((24 : Int32), S1)).bind fun (e3 : ST) => some e3
set_option maxRecDepth 100000 in
set_option maxHeartbeats 4000000 in
theorem E_X12_cheapens_ok {n : Nat} (hn : 30000 ≤ n) {K : AK} {R : Nat → Nat → Option Nat} {S : ST} {a1 : Int32} {a2 : Int32} {a3 : Int32} {tz en : Nat} (hL : Lay K R tz en) {o : ST} (h : E_X12_cheapens n S a1 a2 a3 = some o) : F_X12_cheapens n (mkM K R S) 95 a1 a2 a3 = some (mkM K R o) := by
  unfold E_X12_cheapens at h
  unfold F_X12_cheapens
  refine ePI (kd_95 hL) (Nat.le_of_ble_eq_true rfl) h (fun S1 h => ?_)
  refine eCV (kd_95 hL) (Nat.le_of_ble_eq_true rfl) (fun _ hv => E_X12_has_ok hn hL hv) h (fun v2 h => ?_)
  refine eLP (fun (s3 : Int32 × ST) => (s3.1, mkM K R s3.2)) (fun (e3 : ST) => mkM K R e3) h rfl ?_ ?_
  · intro s3 x3 h
    refine eIF h (fun c4 h => ?_) (fun c4 h => ?_)
    · exact eLeaf (θ := (Sum.map (fun (s3 : Int32 × ST) => (s3.1, mkM K R s3.2)) (fun (e3 : ST) => mkM K R e3))) h rfl
    · refine eJN (fun j32 fj32 => ∀ (S5 : ST), j32 S5 = some x3 → fj32 (mkM K R S5) = some (Sum.map (fun (s3 : Int32 × ST) => (s3.1, mkM K R s3.2)) (fun (e3 : ST) => mkM K R e3) x3)) h ?_ ?_
      · intro S5 h
        refine eLP (fun (s6 : Int32 × ST) => (s6.1, mkM K R s6.2)) (fun (e6 : ST) => mkM K R e6) h rfl ?_ ?_
        · intro s6 x6 h
          refine eIF h (fun c7 h => ?_) (fun c7 h => ?_)
          · exact eLeaf (θ := (Sum.map (fun (s6 : Int32 × ST) => (s6.1, mkM K R s6.2)) (fun (e6 : ST) => mkM K R e6))) h rfl
          · refine eJN (fun j28 fj28 => ∀ (u8 : Int32), j28 u8 = some x6 → fj28 u8 = some (Sum.map (fun (s6 : Int32 × ST) => (s6.1, mkM K R s6.2)) (fun (e6 : ST) => mkM K R e6) x6)) h ?_ ?_
            · intro u8 h
              refine eJN (fun j11 fj11 => ∀ (u9 : Int32), j11 u9 = some x6 → fj11 u9 = some (Sum.map (fun (s6 : Int32 × ST) => (s6.1, mkM K R s6.2)) (fun (e6 : ST) => mkM K R e6) x6)) h ?_ ?_
              · intro u9 h
                refine eGR (kd_95 hL) (Nat.le_of_ble_eq_true rfl) (rd_95_75 hL) ?_
                refine eWI (kd_149 hL) (Nat.le_of_ble_eq_true rfl) h (fun S10 h => ?_)
                exact eLeaf (θ := (Sum.map (fun (s6 : Int32 × ST) => (s6.1, mkM K R s6.2)) (fun (e6 : ST) => mkM K R e6))) h rfl
              · intro j11 fj11 Jj11 h
                refine eIF h (fun c12 h => ?_) (fun c12 h => ?_)
                · exact Jj11 _ h
                · refine eIF h (fun c13 h => ?_) (fun c13 h => ?_)
                  · refine eLP (fun (s14 : Int32 × Int32) => s14) (fun (e14 : Int32) => e14) h rfl ?_ ?_
                    · intro s14 x14 h
                      refine eGI (kd_95 hL) (Nat.le_of_ble_eq_true rfl) ?_
                      refine eIF h (fun c15 h => ?_) (fun c15 h => ?_)
                      · exact eLeaf (θ := (Sum.map (fun (s14 : Int32 × Int32) => s14) (fun (e14 : Int32) => e14))) h rfl
                      · refine eCV (kd_95 hL) (Nat.le_of_ble_eq_true rfl) (fun _ hv => E_X12_canTake_ok hn hL hv) h (fun v16 h => ?_)
                        refine eJN (fun j18 fj18 => ∀ (u17 : Int32), j18 u17 = some x14 → fj18 u17 = some (Sum.map (fun (s14 : Int32 × Int32) => s14) (fun (e14 : Int32) => e14) x14)) h ?_ ?_
                        · intro u17 h
                          exact eLeaf (θ := (Sum.map (fun (s14 : Int32 × Int32) => s14) (fun (e14 : Int32) => e14))) h rfl
                        · intro j18 fj18 Jj18 h
                          refine eIF h (fun c19 h => ?_) (fun c19 h => ?_)
                          · exact Jj18 _ h
                          · refine eGR (kd_95 hL) (Nat.le_of_ble_eq_true rfl) (rd_95_75 hL) ?_
                            refine eGR (kd_95 hL) (Nat.le_of_ble_eq_true rfl) (rd_95_80 hL) ?_
                            refine eRI (kd_153 hL) h (fun v20 h => ?_)
                            refine eRI (kd_149 hL) h (fun v21 h => ?_)
                            refine eIF h (fun c22 h => ?_) (fun c22 h => ?_)
                            · exact Jj18 _ h
                            · refine eJN (fun j24 fj24 => j24 = some x14 → fj24 = some (Sum.map (fun (s14 : Int32 × Int32) => s14) (fun (e14 : Int32) => e14) x14)) h ?_ ?_
                              · intro h
                                refine eCV (kd_95 hL) (Nat.le_of_ble_eq_true rfl) (fun _ hv => E_X12_price_ok hn hL hv) h (fun v23 h => ?_)
                                exact Jj18 _ h
                              · intro j24 fj24 Jj24 h
                                refine eIF h (fun c25 h => ?_) (fun c25 h => ?_)
                                · exact Jj24 h
                                · refine eCV (kd_95 hL) (Nat.le_of_ble_eq_true rfl) (fun _ hv => E_X12_price_ok hn hL hv) h (fun v26 h => ?_)
                                  refine eIF h (fun c27 h => ?_) (fun c27 h => ?_)
                                  · exact Jj18 _ h
                                  · exact Jj24 h
                    · intro e14 h
                      exact Jj11 _ h
                  · exact Jj11 _ h
            · intro j28 fj28 Jj28 h
              refine eIF h (fun c29 h => ?_) (fun c29 h => ?_)
              · exact Jj28 _ h
              · refine eIF h (fun c30 h => ?_) (fun c30 h => ?_)
                · exact Jj28 _ h
                · refine eGR (kd_95 hL) (Nat.le_of_ble_eq_true rfl) (rd_95_75 hL) ?_
                  refine eRI (kd_149 hL) h (fun v31 h => ?_)
                  exact Jj28 _ h
        · intro e6 h
          exact eLeaf (θ := (Sum.map (fun (s3 : Int32 × ST) => (s3.1, mkM K R s3.2)) (fun (e3 : ST) => mkM K R e3))) h rfl
      · intro j32 fj32 Jj32 h
        refine eIF h (fun c33 h => ?_) (fun c33 h => ?_)
        · exact Jj32 _ h
        · refine eCwV (kd_95 hL) (Nat.le_of_ble_eq_true rfl) (fun _ hv => E_X12_optionsAt_ok hn hL hv) h (fun S35 h => ?_)
          exact Jj32 _ h
  · intro e3 h
    exact eLeaf (θ := (fun (o : ST) => (mkM K R o))) h rfl
-- OnlyUpwardModel.cheap(IIIII)I
set_option maxRecDepth 100000 in
set_option maxHeartbeats 4000000 in
def E_X12_cheap (n : Nat) (S : ST) (a1 : Int32) (a2 : Int32) (a3 : Int32) (a4 : Int32) (a5 : Int32) : Option (Int32 × ST) :=
  (E_X12_isCheap n S a1 a2 a3 a4).bind fun v1 => if v1 = 0 then some ((-1 : Int32), S) else (E_X12_in n S a5 (0 : Int32) (1 : Int32)).bind fun v3 => if v3 = 0 then some ((-1 : Int32), S) else (E_X12_cheapens n S a1 a2 a4).bind fun S6 => (rd (S6.1 149) 25600 (((1024 : Int32) * a4) + a3)).bind fun v7 => if v7 = (-1 : Int32) then some ((-2 : Int32), S6) else if a5 = 0 then gd (¬ (1000 : Int32) = 0) (some ((v7 / (1000 : Int32)), S6)) else gd (¬ (1000 : Int32) = 0) (some ((v7 - v7 / (1000 : Int32) * (1000 : Int32)), S6))
set_option maxRecDepth 100000 in
set_option maxHeartbeats 4000000 in
theorem E_X12_cheap_ok {n : Nat} (hn : 30000 ≤ n) {K : AK} {R : Nat → Nat → Option Nat} {S : ST} {a1 : Int32} {a2 : Int32} {a3 : Int32} {a4 : Int32} {a5 : Int32} {tz en : Nat} (hL : Lay K R tz en) {o : (Int32 × ST)} (h : E_X12_cheap n S a1 a2 a3 a4 a5 = some o) : F_X12_cheap n (mkM K R S) 95 a1 a2 a3 a4 a5 = some (o.1, mkM K R o.2) := by
  unfold E_X12_cheap at h
  unfold F_X12_cheap
  refine eCV (kd_95 hL) (Nat.le_of_ble_eq_true rfl) (fun _ hv => E_X12_isCheap_ok hn hL hv) h (fun v1 h => ?_)
  refine eIF h (fun c2 h => ?_) (fun c2 h => ?_)
  · exact eLeaf (θ := (fun (o : (Int32 × ST)) => (o.1, mkM K R o.2))) h rfl
  · refine eCS (fun _ hv => E_X12_in_ok hn hL hv) h (fun v3 h => ?_)
    refine eIF h (fun c4 h => ?_) (fun c4 h => ?_)
    · exact eLeaf (θ := (fun (o : (Int32 × ST)) => (o.1, mkM K R o.2))) h rfl
    · refine eCwV (kd_95 hL) (Nat.le_of_ble_eq_true rfl) (fun _ hv => E_X12_cheapens_ok hn hL hv) h (fun S6 h => ?_)
      refine eGR (kd_95 hL) (Nat.le_of_ble_eq_true rfl) (rd_95_75 hL) ?_
      refine eRI (kd_149 hL) h (fun v7 h => ?_)
      refine eIF h (fun c8 h => ?_) (fun c8 h => ?_)
      · exact eLeaf (θ := (fun (o : (Int32 × ST)) => (o.1, mkM K R o.2))) h rfl
      · refine eIF h (fun c9 h => ?_) (fun c9 h => ?_)
        · refine eGD h (fun c10 h => ?_)
          exact eLeaf (θ := (fun (o : (Int32 × ST)) => (o.1, mkM K R o.2))) h rfl
        · refine eGD h (fun c11 h => ?_)
          exact eLeaf (θ := (fun (o : (Int32 × ST)) => (o.1, mkM K R o.2))) h rfl
-- OnlyUpwardModel.cheapAt(IIIII)I
set_option maxRecDepth 100000 in
set_option maxHeartbeats 4000000 in
def E_X12_cheapAt (n : Nat) (S : ST) (a1 : Int32) (a2 : Int32) (a3 : Int32) (a4 : Int32) (a5 : Int32) : Option (Int32 × ST) :=
  (E_X12_isCheap n S a1 a2 a3 a4).bind fun v1 => if v1 = 0 then some ((-1 : Int32), S) else if 0 ≤ a5 then (E_X12_cheapens n S a1 a2 a4).bind fun S5 => (rd (S5.1 149) 25600 (((1024 : Int32) * a4) + a3)).bind fun v6 => if v6 = (-1 : Int32) then some ((-1 : Int32), S5) else (iter (fun (s8 : Int32 × Int32 × Int32 × ST) => if (24 : Int32) ≤ s8.2.2.1 then some (.inr (.inl s8.2.2.2)) else if ((s8.1 >>> (a1 &&& 31)) &&& (1 : Int32)) = 0 then (E_X12_optionsAt n s8.2.2.2 s8.2.2.1 a2).bind fun S12 => (iter (fun (s13 : Int32 × Int32) => if (S12.1 95 76) ≤ s13.2 then some (.inr s13.1) else if s13.1 = (-1 : Int32) then (E_X12_canTake n S12 s13.2 s8.1).bind fun v16 => jn (fun (u17 : Int32) => some (.inl (u17, (s13.2 + (1 : Int32))))) fun j18 => if v16 = 0 then j18 s13.1 else (rd (S12.1 153) 160 s13.2).bind fun v20 => (rd (S12.1 149) 25600 ((((1024 : Int32) * s8.2.2.1) + (1024 : Int32)) + (s8.1 ||| v20))).bind fun v21 => if v21 = (-1 : Int32) then j18 s13.1 else (E_X12_price n S12 s13.2).bind fun v23 => (rd (S12.1 149) 25600 (((1024 : Int32) * s8.2.2.1) + s8.1)).bind fun v24 => if (v21 + v23) = v24 then j18 s13.2 else j18 s13.1 else some (.inr s13.1)) n ((-1 : Int32), (0 : Int32))).bind fun (e13 : Int32) => jn (fun (u26 : Int32) (u27 : Int32) => some (.inl (u26, u27, (s8.2.2.1 + (1 : Int32)), S12))) fun j28 => if e13 = (-1 : Int32) then j28 s8.1 s8.2.1 else if s8.2.1 = 0 then (rd (S12.1 150) 160 e13).bind fun v31 => (rd (S12.1 151) 160 e13).bind fun v32 => (rd (S12.1 152) 160 e13).bind fun v33 => some (.inr (.inr ((((((10000 : Int32) * s8.2.2.1) + ((1000 : Int32) * v31)) + ((20 : Int32) * v32)) + v33), S12))) else (rd (S12.1 153) 160 e13).bind fun v34 => j28 (s8.1 ||| v34) (s8.2.1 + (-1 : Int32)) else some (.inr (.inl s8.2.2.2))) n (a3, a5, a4, S5)).bind fun (z8 : (ST) ⊕ (Int32 × ST)) => Sum.elim (fun (e8 : ST) => some ((-1 : Int32), e8)) (fun (v : (Int32 × ST)) => some v) z8 else some ((-1 : Int32), S)
set_option maxRecDepth 100000 in
set_option maxHeartbeats 4000000 in
theorem E_X12_cheapAt_ok {n : Nat} (hn : 30000 ≤ n) {K : AK} {R : Nat → Nat → Option Nat} {S : ST} {a1 : Int32} {a2 : Int32} {a3 : Int32} {a4 : Int32} {a5 : Int32} {tz en : Nat} (hL : Lay K R tz en) {o : (Int32 × ST)} (h : E_X12_cheapAt n S a1 a2 a3 a4 a5 = some o) : F_X12_cheapAt n (mkM K R S) 95 a1 a2 a3 a4 a5 = some (o.1, mkM K R o.2) := by
  unfold E_X12_cheapAt at h
  unfold F_X12_cheapAt
  refine eCV (kd_95 hL) (Nat.le_of_ble_eq_true rfl) (fun _ hv => E_X12_isCheap_ok hn hL hv) h (fun v1 h => ?_)
  refine eIF h (fun c2 h => ?_) (fun c2 h => ?_)
  · exact eLeaf (θ := (fun (o : (Int32 × ST)) => (o.1, mkM K R o.2))) h rfl
  · refine eIF h (fun c3 h => ?_) (fun c3 h => ?_)
    · refine eCwV (kd_95 hL) (Nat.le_of_ble_eq_true rfl) (fun _ hv => E_X12_cheapens_ok hn hL hv) h (fun S5 h => ?_)
      refine eGR (kd_95 hL) (Nat.le_of_ble_eq_true rfl) (rd_95_75 hL) ?_
      refine eRI (kd_149 hL) h (fun v6 h => ?_)
      refine eIF h (fun c7 h => ?_) (fun c7 h => ?_)
      · exact eLeaf (θ := (fun (o : (Int32 × ST)) => (o.1, mkM K R o.2))) h rfl
      · refine eLP (fun (s8 : Int32 × Int32 × Int32 × ST) => (s8.1, s8.2.1, s8.2.2.1, mkM K R s8.2.2.2)) (Sum.map (fun (e8 : ST) => mkM K R e8) (fun (v : (Int32 × ST)) => (v.1, mkM K R v.2))) h rfl ?_ ?_
        · intro s8 x8 h
          refine eIF h (fun c9 h => ?_) (fun c9 h => ?_)
          · exact eLeaf (θ := (Sum.map (fun (s8 : Int32 × Int32 × Int32 × ST) => (s8.1, s8.2.1, s8.2.2.1, mkM K R s8.2.2.2)) (Sum.map (fun (e8 : ST) => mkM K R e8) (fun (v : (Int32 × ST)) => (v.1, mkM K R v.2))))) h rfl
          · refine eIF h (fun c10 h => ?_) (fun c10 h => ?_)
            · refine eCwV (kd_95 hL) (Nat.le_of_ble_eq_true rfl) (fun _ hv => E_X12_optionsAt_ok hn hL hv) h (fun S12 h => ?_)
              refine eLP (fun (s13 : Int32 × Int32) => s13) (fun (e13 : Int32) => e13) h rfl ?_ ?_
              · intro s13 x13 h
                refine eGI (kd_95 hL) (Nat.le_of_ble_eq_true rfl) ?_
                refine eIF h (fun c14 h => ?_) (fun c14 h => ?_)
                · exact eLeaf (θ := (Sum.map (fun (s13 : Int32 × Int32) => s13) (fun (e13 : Int32) => e13))) h rfl
                · refine eIF h (fun c15 h => ?_) (fun c15 h => ?_)
                  · refine eCV (kd_95 hL) (Nat.le_of_ble_eq_true rfl) (fun _ hv => E_X12_canTake_ok hn hL hv) h (fun v16 h => ?_)
                    refine eJN (fun j18 fj18 => ∀ (u17 : Int32), j18 u17 = some x13 → fj18 u17 = some (Sum.map (fun (s13 : Int32 × Int32) => s13) (fun (e13 : Int32) => e13) x13)) h ?_ ?_
                    · intro u17 h
                      exact eLeaf (θ := (Sum.map (fun (s13 : Int32 × Int32) => s13) (fun (e13 : Int32) => e13))) h rfl
                    · intro j18 fj18 Jj18 h
                      refine eIF h (fun c19 h => ?_) (fun c19 h => ?_)
                      · exact Jj18 _ h
                      · refine eGR (kd_95 hL) (Nat.le_of_ble_eq_true rfl) (rd_95_75 hL) ?_
                        refine eGR (kd_95 hL) (Nat.le_of_ble_eq_true rfl) (rd_95_80 hL) ?_
                        refine eRI (kd_153 hL) h (fun v20 h => ?_)
                        refine eRI (kd_149 hL) h (fun v21 h => ?_)
                        refine eIF h (fun c22 h => ?_) (fun c22 h => ?_)
                        · exact Jj18 _ h
                        · refine eCV (kd_95 hL) (Nat.le_of_ble_eq_true rfl) (fun _ hv => E_X12_price_ok hn hL hv) h (fun v23 h => ?_)
                          refine eGR (kd_95 hL) (Nat.le_of_ble_eq_true rfl) (rd_95_75 hL) ?_
                          refine eRI (kd_149 hL) h (fun v24 h => ?_)
                          refine eIF h (fun c25 h => ?_) (fun c25 h => ?_)
                          · exact Jj18 _ h
                          · exact Jj18 _ h
                  · exact eLeaf (θ := (Sum.map (fun (s13 : Int32 × Int32) => s13) (fun (e13 : Int32) => e13))) h rfl
              · intro e13 h
                refine eJN (fun j28 fj28 => ∀ (u26 : Int32) (u27 : Int32), j28 u26 u27 = some x8 → fj28 u26 u27 = some (Sum.map (fun (s8 : Int32 × Int32 × Int32 × ST) => (s8.1, s8.2.1, s8.2.2.1, mkM K R s8.2.2.2)) (Sum.map (fun (e8 : ST) => mkM K R e8) (fun (v : (Int32 × ST)) => (v.1, mkM K R v.2))) x8)) h ?_ ?_
                · intro u26 u27 h
                  exact eLeaf (θ := (Sum.map (fun (s8 : Int32 × Int32 × Int32 × ST) => (s8.1, s8.2.1, s8.2.2.1, mkM K R s8.2.2.2)) (Sum.map (fun (e8 : ST) => mkM K R e8) (fun (v : (Int32 × ST)) => (v.1, mkM K R v.2))))) h rfl
                · intro j28 fj28 Jj28 h
                  refine eIF h (fun c29 h => ?_) (fun c29 h => ?_)
                  · exact Jj28 _ _ h
                  · refine eIF h (fun c30 h => ?_) (fun c30 h => ?_)
                    · refine eGR (kd_95 hL) (Nat.le_of_ble_eq_true rfl) (rd_95_77 hL) ?_
                      refine eRI (kd_150 hL) h (fun v31 h => ?_)
                      refine eGR (kd_95 hL) (Nat.le_of_ble_eq_true rfl) (rd_95_78 hL) ?_
                      refine eRI (kd_151 hL) h (fun v32 h => ?_)
                      refine eGR (kd_95 hL) (Nat.le_of_ble_eq_true rfl) (rd_95_79 hL) ?_
                      refine eRI (kd_152 hL) h (fun v33 h => ?_)
                      exact eLeaf (θ := (Sum.map (fun (s8 : Int32 × Int32 × Int32 × ST) => (s8.1, s8.2.1, s8.2.2.1, mkM K R s8.2.2.2)) (Sum.map (fun (e8 : ST) => mkM K R e8) (fun (v : (Int32 × ST)) => (v.1, mkM K R v.2))))) h rfl
                    · refine eGR (kd_95 hL) (Nat.le_of_ble_eq_true rfl) (rd_95_80 hL) ?_
                      refine eRI (kd_153 hL) h (fun v34 h => ?_)
                      exact Jj28 _ _ h
            · exact eLeaf (θ := (Sum.map (fun (s8 : Int32 × Int32 × Int32 × ST) => (s8.1, s8.2.1, s8.2.2.1, mkM K R s8.2.2.2)) (Sum.map (fun (e8 : ST) => mkM K R e8) (fun (v : (Int32 × ST)) => (v.1, mkM K R v.2))))) h rfl
        · intro z8 h
          rcases z8 with e8 | v
          · have h := sum_inl h
            exact eLeaf (θ := (fun (o : (Int32 × ST)) => (o.1, mkM K R o.2))) h rfl
          · have h := sum_inr h
            exact eLeaf (θ := (fun (o : (Int32 × ST)) => (o.1, mkM K R o.2))) h rfl
    · exact eLeaf (θ := (fun (o : (Int32 × ST)) => (o.1, mkM K R o.2))) h rfl
-- OnlyUpwardModel.youngerIn(II)I
set_option maxRecDepth 100000 in
set_option maxHeartbeats 4000000 in
def E_X12_youngerIn (n : Nat) (S : ST) (a1 : Int32) (a2 : Int32) : Option Int32 :=
  (E_X12_placeOf n S a1 a2).bind fun v1 => if 0 ≤ v1 then (E_X12_placeOf n S a1 a2).bind fun v3 => (E_X12_earshotOf n S v3 a2).bind fun v4 => (iter (fun (s5 : Int32 × Int32) => (E_X12_has n S (1 : Int32)).bind fun v6 => if v6 ≤ s5.2 then some (.inr s5.1) else jn (fun (u8 : Int32) => some (.inl (u8, (s5.2 + (1 : Int32))))) fun j9 => if ((v4 >>> (s5.2 &&& 31)) &&& (1 : Int32)) = (1 : Int32) then (E_X12_ageAt n S s5.2 a2).bind fun v11 => (E_X12_ageAt n S a1 a2).bind fun v12 => if v12 ≤ v11 then j9 s5.1 else j9 (s5.1 ||| ((1 : Int32) <<< (s5.2 &&& 31))) else j9 s5.1) n ((0 : Int32), (0 : Int32))).bind fun (e5 : Int32) => some e5 else some (0 : Int32)
set_option maxRecDepth 100000 in
set_option maxHeartbeats 4000000 in
theorem E_X12_youngerIn_ok {n : Nat} (hn : 30000 ≤ n) {K : AK} {R : Nat → Nat → Option Nat} {S : ST} {a1 : Int32} {a2 : Int32} {tz en : Nat} (hL : Lay K R tz en) {o : Int32} (h : E_X12_youngerIn n S a1 a2 = some o) : F_X12_youngerIn n (mkM K R S) 95 a1 a2 = some o := by
  unfold E_X12_youngerIn at h
  unfold F_X12_youngerIn
  refine eCV (kd_95 hL) (Nat.le_of_ble_eq_true rfl) (fun _ hv => E_X12_placeOf_ok hn hL hv) h (fun v1 h => ?_)
  refine eIF h (fun c2 h => ?_) (fun c2 h => ?_)
  · refine eCV (kd_95 hL) (Nat.le_of_ble_eq_true rfl) (fun _ hv => E_X12_placeOf_ok hn hL hv) h (fun v3 h => ?_)
    refine eCV (kd_95 hL) (Nat.le_of_ble_eq_true rfl) (fun _ hv => E_X12_earshotOf_ok hn hL hv) h (fun v4 h => ?_)
    refine eLP (fun (s5 : Int32 × Int32) => s5) (fun (e5 : Int32) => e5) h rfl ?_ ?_
    · intro s5 x5 h
      refine eCV (kd_95 hL) (Nat.le_of_ble_eq_true rfl) (fun _ hv => E_X12_has_ok hn hL hv) h (fun v6 h => ?_)
      refine eIF h (fun c7 h => ?_) (fun c7 h => ?_)
      · exact eLeaf (θ := (Sum.map (fun (s5 : Int32 × Int32) => s5) (fun (e5 : Int32) => e5))) h rfl
      · refine eJN (fun j9 fj9 => ∀ (u8 : Int32), j9 u8 = some x5 → fj9 u8 = some (Sum.map (fun (s5 : Int32 × Int32) => s5) (fun (e5 : Int32) => e5) x5)) h ?_ ?_
        · intro u8 h
          exact eLeaf (θ := (Sum.map (fun (s5 : Int32 × Int32) => s5) (fun (e5 : Int32) => e5))) h rfl
        · intro j9 fj9 Jj9 h
          refine eIF h (fun c10 h => ?_) (fun c10 h => ?_)
          · refine eCV (kd_95 hL) (Nat.le_of_ble_eq_true rfl) (fun _ hv => E_X12_ageAt_ok hn hL hv) h (fun v11 h => ?_)
            refine eCV (kd_95 hL) (Nat.le_of_ble_eq_true rfl) (fun _ hv => E_X12_ageAt_ok hn hL hv) h (fun v12 h => ?_)
            refine eIF h (fun c13 h => ?_) (fun c13 h => ?_)
            · exact Jj9 _ h
            · exact Jj9 _ h
          · exact Jj9 _ h
    · intro e5 h
      exact eLeaf (θ := (fun (o : Int32) => o)) h rfl
  · exact eLeaf (θ := (fun (o : Int32) => o)) h rfl
-- OnlyUpwardModel.secret(II)I
set_option maxRecDepth 100000 in
set_option maxHeartbeats 4000000 in
def E_X12_secret (n : Nat) (S : ST) (a1 : Int32) (a2 : Int32) : Option (Int32 × ST) :=
  (E_X12_isPerson n S a1).bind fun v1 => if v1 = 0 then some ((-1 : Int32), S) else (E_X12_isHour n S a2).bind fun v3 => if v3 = 0 then some ((-1 : Int32), S) else lets (upI S 95 61 (0 : Int32)) fun (S5 : ST) => (E_X12_youngerIn n S5 a1 a2).bind fun v6 => if v6 = 0 then (iter (fun (s8 : Int32 × ST) => (E_X12_has n s8.2 (1 : Int32)).bind fun v9 => if v9 ≤ s8.1 then some (.inr (.inl s8.2)) else (E_X12_mayBy n s8.2 a1 s8.1 a2 (0 : Int32) (0 : Int32)).bind fun v11 => if v11.1 = 0 then some (.inl ((s8.1 + (1 : Int32)), v11.2)) else some (.inr (.inr (s8.1, v11.2)))) n ((0 : Int32), S5)).bind fun (z8 : (ST) ⊕ (Int32 × ST)) => Sum.elim (fun (e8 : ST) => some ((-2 : Int32), e8)) (fun (v : (Int32 × ST)) => some v) z8 else some ((-2 : Int32), S5)
set_option maxRecDepth 100000 in
set_option maxHeartbeats 4000000 in
theorem E_X12_secret_ok {n : Nat} (hn : 30000 ≤ n) {K : AK} {R : Nat → Nat → Option Nat} {S : ST} {a1 : Int32} {a2 : Int32} {tz en : Nat} (hL : Lay K R tz en) {o : (Int32 × ST)} (h : E_X12_secret n S a1 a2 = some o) : F_X12_secret n (mkM K R S) 95 a1 a2 = some (o.1, mkM K R o.2) := by
  unfold E_X12_secret at h
  unfold F_X12_secret
  refine eCV (kd_95 hL) (Nat.le_of_ble_eq_true rfl) (fun _ hv => E_X12_isPerson_ok hn hL hv) h (fun v1 h => ?_)
  refine eIF h (fun c2 h => ?_) (fun c2 h => ?_)
  · exact eLeaf (θ := (fun (o : (Int32 × ST)) => (o.1, mkM K R o.2))) h rfl
  · refine eCS (fun _ hv => E_X12_isHour_ok hn hL hv) h (fun v3 h => ?_)
    refine eIF h (fun c4 h => ?_) (fun c4 h => ?_)
    · exact eLeaf (θ := (fun (o : (Int32 × ST)) => (o.1, mkM K R o.2))) h rfl
    · refine ePI (kd_95 hL) (Nat.le_of_ble_eq_true rfl) h (fun S5 h => ?_)
      refine eCV (kd_95 hL) (Nat.le_of_ble_eq_true rfl) (fun _ hv => E_X12_youngerIn_ok hn hL hv) h (fun v6 h => ?_)
      refine eIF h (fun c7 h => ?_) (fun c7 h => ?_)
      · refine eLP (fun (s8 : Int32 × ST) => (s8.1, mkM K R s8.2)) (Sum.map (fun (e8 : ST) => mkM K R e8) (fun (v : (Int32 × ST)) => (v.1, mkM K R v.2))) h rfl ?_ ?_
        · intro s8 x8 h
          refine eCV (kd_95 hL) (Nat.le_of_ble_eq_true rfl) (fun _ hv => E_X12_has_ok hn hL hv) h (fun v9 h => ?_)
          refine eIF h (fun c10 h => ?_) (fun c10 h => ?_)
          · exact eLeaf (θ := (Sum.map (fun (s8 : Int32 × ST) => (s8.1, mkM K R s8.2)) (Sum.map (fun (e8 : ST) => mkM K R e8) (fun (v : (Int32 × ST)) => (v.1, mkM K R v.2))))) h rfl
          · refine eCwiV (kd_95 hL) (Nat.le_of_ble_eq_true rfl) (fun _ hv => E_X12_mayBy_ok hn hL hv) h (fun v11 h => ?_)
            refine eIF h (fun c12 h => ?_) (fun c12 h => ?_)
            · exact eLeaf (θ := (Sum.map (fun (s8 : Int32 × ST) => (s8.1, mkM K R s8.2)) (Sum.map (fun (e8 : ST) => mkM K R e8) (fun (v : (Int32 × ST)) => (v.1, mkM K R v.2))))) h rfl
            · exact eLeaf (θ := (Sum.map (fun (s8 : Int32 × ST) => (s8.1, mkM K R s8.2)) (Sum.map (fun (e8 : ST) => mkM K R e8) (fun (v : (Int32 × ST)) => (v.1, mkM K R v.2))))) h rfl
        · intro z8 h
          rcases z8 with e8 | v
          · have h := sum_inl h
            exact eLeaf (θ := (fun (o : (Int32 × ST)) => (o.1, mkM K R o.2))) h rfl
          · have h := sum_inr h
            exact eLeaf (θ := (fun (o : (Int32 × ST)) => (o.1, mkM K R o.2))) h rfl
      · exact eLeaf (θ := (fun (o : (Int32 × ST)) => (o.1, mkM K R o.2))) h rfl
