-- OnlyUpwardModel.termOf(II)I
set_option maxRecDepth 100000 in
set_option maxHeartbeats 4000000 in
def E_X12_termOf (n : Nat) (S : ST) (a1 : Int32) (a2 : Int32) : Option (Int32 × ST) :=
  lets (upI S 95 60 (0 : Int32)) fun (S1 : ST) => (iter (fun (s2 : Int32 × Int32 × ST) => if a2 ≤ s2.2.1 then some (.inr (.inl s2.2.2)) else (rd (s2.2.2.1 134) 840 s2.2.1).bind fun v4 => jn (fun (u5 : Int32) (S6 : ST) => some (.inl (u5, (s2.2.1 + (1 : Int32)), S6))) fun j7 => if (2 : Int32) ≤ v4 then (rd (s2.2.2.1 138) 400 ((s2.1 + (-1 : Int32)) - (1 : Int32))).bind fun v9 => (rd (s2.2.2.1 138) 400 (s2.1 + (-1 : Int32))).bind fun v10 => jn (jn (fun (u11 : Int32) => (wr s2.2.2 138 400 ((s2.1 + (-1 : Int32)) - (1 : Int32)) u11).bind fun S12 => j7 (s2.1 + (-1 : Int32)) S12) fun j13 => if v4 = (2 : Int32) then j13 (v9 + v10) else if v4 = (3 : Int32) then j13 (v9 - v10) else if v4 = (4 : Int32) then j13 (v9 * v10) else gd (¬ v10 = 0) (j13 (v9 / v10))) fun j18 => if v4 = (5 : Int32) then if v10 = 0 then lets (upI s2.2.2 95 60 (1 : Int32)) fun (S21 : ST) => some (.inr (.inr ((0 : Int32), S21))) else j18 else j18 else jn (fun (u22 : Int32) => (wr s2.2.2 138 400 s2.1 u22).bind fun S23 => j7 (s2.1 + (1 : Int32)) S23) fun j24 => if v4 = 0 then (rd (s2.2.2.1 135) 840 s2.2.1).bind fun v26 => j24 v26 else (rd (s2.2.2.1 135) 840 s2.2.1).bind fun v27 => (rd (s2.2.2.1 137) 4 v27).bind fun v28 => j24 v28) n ((0 : Int32), a1, S1)).bind fun (z2 : (ST) ⊕ (Int32 × ST)) => Sum.elim (fun (e2 : ST) => (rd (e2.1 138) 400 (0 : Int32)).bind fun v29 => some (v29, e2)) (fun (v : (Int32 × ST)) => some v) z2
set_option maxRecDepth 100000 in
set_option maxHeartbeats 4000000 in
theorem E_X12_termOf_ok {n : Nat} (hn : 30000 ≤ n) {K : AK} {R : Nat → Nat → Option Nat} {S : ST} {a1 : Int32} {a2 : Int32} {tz en : Nat} (hL : Lay K R tz en) {o : (Int32 × ST)} (h : E_X12_termOf n S a1 a2 = some o) : F_X12_termOf n (mkM K R S) 95 a1 a2 = some (o.1, mkM K R o.2) := by
  unfold E_X12_termOf at h
  unfold F_X12_termOf
  refine ePZ (kd_95 hL) (Nat.le_of_ble_eq_true rfl) (by decide) h (fun S1 h => ?_)
  refine eLP (fun (s2 : Int32 × Int32 × ST) => (s2.1, s2.2.1, mkM K R s2.2.2)) (Sum.map (fun (e2 : ST) => mkM K R e2) (fun (v : (Int32 × ST)) => (v.1, mkM K R v.2))) h rfl ?_ ?_
  · intro s2 x2 h
    refine eIF h (fun c3 h => ?_) (fun c3 h => ?_)
    · exact eLeaf (θ := (Sum.map (fun (s2 : Int32 × Int32 × ST) => (s2.1, s2.2.1, mkM K R s2.2.2)) (Sum.map (fun (e2 : ST) => mkM K R e2) (fun (v : (Int32 × ST)) => (v.1, mkM K R v.2))))) h rfl
    · refine eGR (kd_95 hL) (Nat.le_of_ble_eq_true rfl) (rd_95_54 hL) ?_
      refine eRI (kd_134 hL) h (fun v4 h => ?_)
      refine eJN (fun j7 fj7 => ∀ (u5 : Int32) (S6 : ST), j7 u5 S6 = some x2 → fj7 u5 (mkM K R S6) = some (Sum.map (fun (s2 : Int32 × Int32 × ST) => (s2.1, s2.2.1, mkM K R s2.2.2)) (Sum.map (fun (e2 : ST) => mkM K R e2) (fun (v : (Int32 × ST)) => (v.1, mkM K R v.2))) x2)) h ?_ ?_
      · intro u5 S6 h
        exact eLeaf (θ := (Sum.map (fun (s2 : Int32 × Int32 × ST) => (s2.1, s2.2.1, mkM K R s2.2.2)) (Sum.map (fun (e2 : ST) => mkM K R e2) (fun (v : (Int32 × ST)) => (v.1, mkM K R v.2))))) h rfl
      · intro j7 fj7 Jj7 h
        refine eIF h (fun c8 h => ?_) (fun c8 h => ?_)
        · refine eGR (kd_95 hL) (Nat.le_of_ble_eq_true rfl) (rd_95_59 hL) ?_
          refine eRI (kd_138 hL) h (fun v9 h => ?_)
          refine eGR (kd_95 hL) (Nat.le_of_ble_eq_true rfl) (rd_95_59 hL) ?_
          refine eRI (kd_138 hL) h (fun v10 h => ?_)
          refine eJN (fun j18 fj18 => j18 = some x2 → fj18 = some (Sum.map (fun (s2 : Int32 × Int32 × ST) => (s2.1, s2.2.1, mkM K R s2.2.2)) (Sum.map (fun (e2 : ST) => mkM K R e2) (fun (v : (Int32 × ST)) => (v.1, mkM K R v.2))) x2)) h ?_ ?_
          · intro h
            refine eGR (kd_95 hL) (Nat.le_of_ble_eq_true rfl) (rd_95_59 hL) ?_
            refine eJN (fun j13 fj13 => ∀ (u11 : Int32), j13 u11 = some x2 → fj13 u11 = some (Sum.map (fun (s2 : Int32 × Int32 × ST) => (s2.1, s2.2.1, mkM K R s2.2.2)) (Sum.map (fun (e2 : ST) => mkM K R e2) (fun (v : (Int32 × ST)) => (v.1, mkM K R v.2))) x2)) h ?_ ?_
            · intro u11 h
              refine eWI (kd_138 hL) (Nat.le_of_ble_eq_true rfl) h (fun S12 h => ?_)
              exact Jj7 _ _ h
            · intro j13 fj13 Jj13 h
              refine eIF h (fun c14 h => ?_) (fun c14 h => ?_)
              · exact Jj13 _ h
              · refine eIF h (fun c15 h => ?_) (fun c15 h => ?_)
                · exact Jj13 _ h
                · refine eIF h (fun c16 h => ?_) (fun c16 h => ?_)
                  · exact Jj13 _ h
                  · refine eGD h (fun c17 h => ?_)
                    exact Jj13 _ h
          · intro j18 fj18 Jj18 h
            refine eIF h (fun c19 h => ?_) (fun c19 h => ?_)
            · refine eIF h (fun c20 h => ?_) (fun c20 h => ?_)
              · refine ePZ (kd_95 hL) (Nat.le_of_ble_eq_true rfl) (by decide) h (fun S21 h => ?_)
                exact eLeaf (θ := (Sum.map (fun (s2 : Int32 × Int32 × ST) => (s2.1, s2.2.1, mkM K R s2.2.2)) (Sum.map (fun (e2 : ST) => mkM K R e2) (fun (v : (Int32 × ST)) => (v.1, mkM K R v.2))))) h rfl
              · exact Jj18 h
            · exact Jj18 h
        · refine eGR (kd_95 hL) (Nat.le_of_ble_eq_true rfl) (rd_95_59 hL) ?_
          refine eJN (fun j24 fj24 => ∀ (u22 : Int32), j24 u22 = some x2 → fj24 u22 = some (Sum.map (fun (s2 : Int32 × Int32 × ST) => (s2.1, s2.2.1, mkM K R s2.2.2)) (Sum.map (fun (e2 : ST) => mkM K R e2) (fun (v : (Int32 × ST)) => (v.1, mkM K R v.2))) x2)) h ?_ ?_
          · intro u22 h
            refine eWI (kd_138 hL) (Nat.le_of_ble_eq_true rfl) h (fun S23 h => ?_)
            exact Jj7 _ _ h
          · intro j24 fj24 Jj24 h
            refine eIF h (fun c25 h => ?_) (fun c25 h => ?_)
            · refine eGR (kd_95 hL) (Nat.le_of_ble_eq_true rfl) (rd_95_55 hL) ?_
              refine eRI (kd_135 hL) h (fun v26 h => ?_)
              exact Jj24 _ h
            · refine eGR (kd_95 hL) (Nat.le_of_ble_eq_true rfl) (rd_95_58 hL) ?_
              refine eGR (kd_95 hL) (Nat.le_of_ble_eq_true rfl) (rd_95_55 hL) ?_
              refine eRI (kd_135 hL) h (fun v27 h => ?_)
              refine eRI (kd_137 hL) h (fun v28 h => ?_)
              exact Jj24 _ h
  · intro z2 h
    rcases z2 with e2 | v
    · have h := sum_inl h
      refine eGR (kd_95 hL) (Nat.le_of_ble_eq_true rfl) (rd_95_59 hL) ?_
      refine eRI (kd_138 hL) h (fun v29 h => ?_)
      exact eLeaf (θ := (fun (o : (Int32 × ST)) => (o.1, mkM K R o.2))) h rfl
    · have h := sum_inr h
      exact eLeaf (θ := (fun (o : (Int32 × ST)) => (o.1, mkM K R o.2))) h rfl
-- OnlyUpwardModel.isTrue(I)Z
set_option maxRecDepth 100000 in
set_option maxHeartbeats 4000000 in
def E_X12_isTrue (n : Nat) (S : ST) (a1 : Int32) : Option (Int32 × ST) :=
  (rd (S.1 131) 300 a1).bind fun v1 => (rd (S.1 132) 300 a1).bind fun v2 => (E_X12_termOf n S v1 v2).bind fun v3 => (rd (v3.2.1 132) 300 a1).bind fun v4 => (rd (v3.2.1 133) 300 a1).bind fun v5 => (E_X12_termOf n v3.2 v4 v5).bind fun v6 => jn (fun (u7 : Int32) => (rd (v6.2.1 128) 300 a1).bind fun v8 => jn (fun (u9 : Int32) => jn (fun (u10 : Int32) => (rd (v6.2.1 129) 300 a1).bind fun v11 => if u10 = v11 then some ((0 : Int32), v6.2) else some ((1 : Int32), v6.2)) fun j13 => jn (j13 (0 : Int32)) fun j14 => if u9 = 0 then j14 else if u7 = 0 then j13 (1 : Int32) else j14) fun j17 => if v8 = 0 then if v3.1 = v6.1 then j17 (1 : Int32) else j17 (0 : Int32) else (rd (v6.2.1 128) 300 a1).bind fun v20 => if v20 = (1 : Int32) then if v3.1 = v6.1 then j17 (0 : Int32) else j17 (1 : Int32) else (rd (v6.2.1 128) 300 a1).bind fun v23 => if v23 = (2 : Int32) then if v6.1 ≤ v3.1 then j17 (0 : Int32) else j17 (1 : Int32) else if v6.1 < v3.1 then j17 (0 : Int32) else j17 (1 : Int32)) fun j27 => jn (j27 (1 : Int32)) fun j28 => if (v3.2.1 95 60) = 0 then if (v6.2.1 95 60) = 0 then j27 (0 : Int32) else j28 else j28
set_option maxRecDepth 100000 in
set_option maxHeartbeats 4000000 in
theorem E_X12_isTrue_ok {n : Nat} (hn : 30000 ≤ n) {K : AK} {R : Nat → Nat → Option Nat} {S : ST} {a1 : Int32} {tz en : Nat} (hL : Lay K R tz en) {o : (Int32 × ST)} (h : E_X12_isTrue n S a1 = some o) : F_X12_isTrue n (mkM K R S) 95 a1 = some (o.1, mkM K R o.2) := by
  unfold E_X12_isTrue at h
  unfold F_X12_isTrue
  refine eGR (kd_95 hL) (Nat.le_of_ble_eq_true rfl) (rd_95_50 hL) ?_
  refine eRI (kd_131 hL) h (fun v1 h => ?_)
  refine eGR (kd_95 hL) (Nat.le_of_ble_eq_true rfl) (rd_95_51 hL) ?_
  refine eRI (kd_132 hL) h (fun v2 h => ?_)
  refine eCwiV (kd_95 hL) (Nat.le_of_ble_eq_true rfl) (fun _ hv => E_X12_termOf_ok hn hL hv) h (fun v3 h => ?_)
  refine eGI (kd_95 hL) (Nat.le_of_ble_eq_true rfl) ?_
  refine eGR (kd_95 hL) (Nat.le_of_ble_eq_true rfl) (rd_95_51 hL) ?_
  refine eRI (kd_132 hL) h (fun v4 h => ?_)
  refine eGR (kd_95 hL) (Nat.le_of_ble_eq_true rfl) (rd_95_52 hL) ?_
  refine eRI (kd_133 hL) h (fun v5 h => ?_)
  refine eCwiV (kd_95 hL) (Nat.le_of_ble_eq_true rfl) (fun _ hv => E_X12_termOf_ok hn hL hv) h (fun v6 h => ?_)
  refine eJN (fun j27 fj27 => ∀ (u7 : Int32), j27 u7 = some o → fj27 u7 = some (o.1, mkM K R o.2)) h ?_ ?_
  · intro u7 h
    refine eGR (kd_95 hL) (Nat.le_of_ble_eq_true rfl) (rd_95_47 hL) ?_
    refine eRI (kd_128 hL) h (fun v8 h => ?_)
    refine eJN (fun j17 fj17 => ∀ (u9 : Int32), j17 u9 = some o → fj17 u9 = some (o.1, mkM K R o.2)) h ?_ ?_
    · intro u9 h
      refine eJN (fun j13 fj13 => ∀ (u10 : Int32), j13 u10 = some o → fj13 u10 = some (o.1, mkM K R o.2)) h ?_ ?_
      · intro u10 h
        refine eGR (kd_95 hL) (Nat.le_of_ble_eq_true rfl) (rd_95_48 hL) ?_
        refine eRZ (kd_129 hL) h (fun v11 h => ?_)
        refine eIF h (fun c12 h => ?_) (fun c12 h => ?_)
        · exact eLeaf (θ := (fun (o : (Int32 × ST)) => (o.1, mkM K R o.2))) h rfl
        · exact eLeaf (θ := (fun (o : (Int32 × ST)) => (o.1, mkM K R o.2))) h rfl
      · intro j13 fj13 Jj13 h
        refine eJN (fun j14 fj14 => j14 = some o → fj14 = some (o.1, mkM K R o.2)) h ?_ ?_
        · intro h
          exact Jj13 _ h
        · intro j14 fj14 Jj14 h
          refine eIF h (fun c15 h => ?_) (fun c15 h => ?_)
          · exact Jj14 h
          · refine eIF h (fun c16 h => ?_) (fun c16 h => ?_)
            · exact Jj13 _ h
            · exact Jj14 h
    · intro j17 fj17 Jj17 h
      refine eIF h (fun c18 h => ?_) (fun c18 h => ?_)
      · refine eIF h (fun c19 h => ?_) (fun c19 h => ?_)
        · exact Jj17 _ h
        · exact Jj17 _ h
      · refine eGR (kd_95 hL) (Nat.le_of_ble_eq_true rfl) (rd_95_47 hL) ?_
        refine eRI (kd_128 hL) h (fun v20 h => ?_)
        refine eIF h (fun c21 h => ?_) (fun c21 h => ?_)
        · refine eIF h (fun c22 h => ?_) (fun c22 h => ?_)
          · exact Jj17 _ h
          · exact Jj17 _ h
        · refine eGR (kd_95 hL) (Nat.le_of_ble_eq_true rfl) (rd_95_47 hL) ?_
          refine eRI (kd_128 hL) h (fun v23 h => ?_)
          refine eIF h (fun c24 h => ?_) (fun c24 h => ?_)
          · refine eIF h (fun c25 h => ?_) (fun c25 h => ?_)
            · exact Jj17 _ h
            · exact Jj17 _ h
          · refine eIF h (fun c26 h => ?_) (fun c26 h => ?_)
            · exact Jj17 _ h
            · exact Jj17 _ h
  · intro j27 fj27 Jj27 h
    refine eJN (fun j28 fj28 => j28 = some o → fj28 = some (o.1, mkM K R o.2)) h ?_ ?_
    · intro h
      exact Jj27 _ h
    · intro j28 fj28 Jj28 h
      refine eIF h (fun c29 h => ?_) (fun c29 h => ?_)
      · refine eGI (kd_95 hL) (Nat.le_of_ble_eq_true rfl) ?_
        refine eIF h (fun c30 h => ?_) (fun c30 h => ?_)
        · exact Jj27 _ h
        · exact Jj28 h
      · exact Jj28 h
-- OnlyUpwardModel.holdsRule(I)Z
set_option maxRecDepth 100000 in
set_option maxHeartbeats 4000000 in
def E_X12_holdsRule (n : Nat) (S : ST) (a1 : Int32) : Option (Int32 × ST) :=
  (rd (S.1 126) 16 a1).bind fun v1 => (iter (fun (s2 : Int32 × Int32 × ST) => (rd (s2.2.2.1 127) 16 a1).bind fun v3 => if v3 ≤ s2.2.1 then some (.inr (.inl (s2.1, s2.2.2))) else (rd (s2.2.2.1 130) 300 s2.2.1).bind fun v5 => jn ((rd (s2.2.2.1 130) 300 s2.2.1).bind fun v6 => jn (fun (u7 : Int32) => jn (fun (u8 : Int32) (S9 : ST) => some (.inl (u8, (s2.2.1 + (1 : Int32)), S9))) fun j10 => jn (fun (S11 : ST) => j10 (0 : Int32) S11) fun j12 => if u7 = 0 then j12 s2.2.2 else (E_X12_isTrue n s2.2.2 s2.2.1).bind fun v14 => if v14.1 = 0 then j12 v14.2 else j10 (1 : Int32) v14.2) fun j16 => if v6 = 0 then j16 s2.1 else j16 (1 : Int32)) fun j18 => if v5 = 0 then j18 else if s2.1 = 0 then j18 else some (.inr (.inr ((1 : Int32), s2.2.2)))) n ((0 : Int32), v1, S)).bind fun (z2 : (Int32 × ST) ⊕ (Int32 × ST)) => Sum.elim (fun (e2 : Int32 × ST) => gd (narrow .boolean (.int e2.1) = .int e2.1) (some (e2.1, e2.2))) (fun (v : (Int32 × ST)) => some v) z2
set_option maxRecDepth 100000 in
set_option maxHeartbeats 4000000 in
theorem E_X12_holdsRule_ok {n : Nat} (hn : 30000 ≤ n) {K : AK} {R : Nat → Nat → Option Nat} {S : ST} {a1 : Int32} {tz en : Nat} (hL : Lay K R tz en) {o : (Int32 × ST)} (h : E_X12_holdsRule n S a1 = some o) : F_X12_holdsRule n (mkM K R S) 95 a1 = some (o.1, mkM K R o.2) := by
  unfold E_X12_holdsRule at h
  unfold F_X12_holdsRule
  refine eGR (kd_95 hL) (Nat.le_of_ble_eq_true rfl) (rd_95_44 hL) ?_
  refine eRI (kd_126 hL) h (fun v1 h => ?_)
  refine eLP (fun (s2 : Int32 × Int32 × ST) => (s2.1, s2.2.1, mkM K R s2.2.2)) (Sum.map (fun (e2 : Int32 × ST) => (e2.1, mkM K R e2.2)) (fun (v : (Int32 × ST)) => (v.1, mkM K R v.2))) h rfl ?_ ?_
  · intro s2 x2 h
    refine eGR (kd_95 hL) (Nat.le_of_ble_eq_true rfl) (rd_95_45 hL) ?_
    refine eRI (kd_127 hL) h (fun v3 h => ?_)
    refine eIF h (fun c4 h => ?_) (fun c4 h => ?_)
    · exact eLeaf (θ := (Sum.map (fun (s2 : Int32 × Int32 × ST) => (s2.1, s2.2.1, mkM K R s2.2.2)) (Sum.map (fun (e2 : Int32 × ST) => (e2.1, mkM K R e2.2)) (fun (v : (Int32 × ST)) => (v.1, mkM K R v.2))))) h rfl
    · refine eGR (kd_95 hL) (Nat.le_of_ble_eq_true rfl) (rd_95_49 hL) ?_
      refine eRZ (kd_130 hL) h (fun v5 h => ?_)
      refine eJN (fun j18 fj18 => j18 = some x2 → fj18 = some (Sum.map (fun (s2 : Int32 × Int32 × ST) => (s2.1, s2.2.1, mkM K R s2.2.2)) (Sum.map (fun (e2 : Int32 × ST) => (e2.1, mkM K R e2.2)) (fun (v : (Int32 × ST)) => (v.1, mkM K R v.2))) x2)) h ?_ ?_
      · intro h
        refine eGR (kd_95 hL) (Nat.le_of_ble_eq_true rfl) (rd_95_49 hL) ?_
        refine eRZ (kd_130 hL) h (fun v6 h => ?_)
        refine eJN (fun j16 fj16 => ∀ (u7 : Int32), j16 u7 = some x2 → fj16 u7 = some (Sum.map (fun (s2 : Int32 × Int32 × ST) => (s2.1, s2.2.1, mkM K R s2.2.2)) (Sum.map (fun (e2 : Int32 × ST) => (e2.1, mkM K R e2.2)) (fun (v : (Int32 × ST)) => (v.1, mkM K R v.2))) x2)) h ?_ ?_
        · intro u7 h
          refine eJN (fun j10 fj10 => ∀ (u8 : Int32) (S9 : ST), j10 u8 S9 = some x2 → fj10 u8 (mkM K R S9) = some (Sum.map (fun (s2 : Int32 × Int32 × ST) => (s2.1, s2.2.1, mkM K R s2.2.2)) (Sum.map (fun (e2 : Int32 × ST) => (e2.1, mkM K R e2.2)) (fun (v : (Int32 × ST)) => (v.1, mkM K R v.2))) x2)) h ?_ ?_
          · intro u8 S9 h
            exact eLeaf (θ := (Sum.map (fun (s2 : Int32 × Int32 × ST) => (s2.1, s2.2.1, mkM K R s2.2.2)) (Sum.map (fun (e2 : Int32 × ST) => (e2.1, mkM K R e2.2)) (fun (v : (Int32 × ST)) => (v.1, mkM K R v.2))))) h rfl
          · intro j10 fj10 Jj10 h
            refine eJN (fun j12 fj12 => ∀ (S11 : ST), j12 S11 = some x2 → fj12 (mkM K R S11) = some (Sum.map (fun (s2 : Int32 × Int32 × ST) => (s2.1, s2.2.1, mkM K R s2.2.2)) (Sum.map (fun (e2 : Int32 × ST) => (e2.1, mkM K R e2.2)) (fun (v : (Int32 × ST)) => (v.1, mkM K R v.2))) x2)) h ?_ ?_
            · intro S11 h
              exact Jj10 _ _ h
            · intro j12 fj12 Jj12 h
              refine eIF h (fun c13 h => ?_) (fun c13 h => ?_)
              · exact Jj12 _ h
              · refine eCwiV (kd_95 hL) (Nat.le_of_ble_eq_true rfl) (fun _ hv => E_X12_isTrue_ok hn hL hv) h (fun v14 h => ?_)
                refine eIF h (fun c15 h => ?_) (fun c15 h => ?_)
                · exact Jj12 _ h
                · exact Jj10 _ _ h
        · intro j16 fj16 Jj16 h
          refine eIF h (fun c17 h => ?_) (fun c17 h => ?_)
          · exact Jj16 _ h
          · exact Jj16 _ h
      · intro j18 fj18 Jj18 h
        refine eIF h (fun c19 h => ?_) (fun c19 h => ?_)
        · exact Jj18 h
        · refine eIF h (fun c20 h => ?_) (fun c20 h => ?_)
          · exact Jj18 h
          · exact eLeaf (θ := (Sum.map (fun (s2 : Int32 × Int32 × ST) => (s2.1, s2.2.1, mkM K R s2.2.2)) (Sum.map (fun (e2 : Int32 × ST) => (e2.1, mkM K R e2.2)) (fun (v : (Int32 × ST)) => (v.1, mkM K R v.2))))) h rfl
  · intro z2 h
    rcases z2 with e2 | v
    · have h := sum_inl h
      refine eGD h (fun c21 h => ?_)
      exact eLeaf (θ := (fun (o : (Int32 × ST)) => (o.1, mkM K R o.2))) h rfl
    · have h := sum_inr h
      exact eLeaf (θ := (fun (o : (Int32 × ST)) => (o.1, mkM K R o.2))) h rfl
-- OnlyUpwardModel.mayBy(IIIII)Z
set_option maxRecDepth 100000 in
set_option maxHeartbeats 4000000 in
def E_X12_mayBy (n : Nat) (S : ST) (a1 : Int32) (a2 : Int32) (a3 : Int32) (a4 : Int32) (a5 : Int32) : Option (Int32 × ST) :=
  (E_X12_placeOf n S a1 a3).bind fun v1 => if a1 = a2 then some ((0 : Int32), S) else if a5 = (3 : Int32) then some ((0 : Int32), S) else if v1 < 0 then some ((0 : Int32), S) else (E_X12_placeOf n S a2 a3).bind fun v5 => if v5 = v1 then if a5 = (2 : Int32) then some ((1 : Int32), S) else (E_X12_ageAt n S a1 a3).bind fun v8 => (E_X12_ageAt n S a2 a3).bind fun v9 => if a5 = (1 : Int32) then if v8 < v9 then some ((0 : Int32), S) else some ((1 : Int32), S) else (rd (S.1 125) 4 (((2 : Int32) * (S.1 95 18)) + a4)).bind fun v12 => if v12 = 0 then jn (some ((1 : Int32), S)) fun j14 => if a4 = (1 : Int32) then j14 else if v9 < v8 then some ((0 : Int32), S) else j14 else (wr S 137 4 (0 : Int32) v8).bind fun S17 => (wr S17 137 4 (1 : Int32) v9).bind fun S18 => (wr S18 137 4 (2 : Int32) a3).bind fun S19 => (E_X12_crowdAt n S19 v1 a3).bind fun v20 => (E_X12_bits n S19 v20).bind fun v21 => (wr S19 137 4 (3 : Int32) v21).bind fun S22 => (iter (fun (s23 : Int32 × ST) => (rd (s23.2.1 125) 4 (((2 : Int32) * (s23.2.1 95 18)) + a4)).bind fun v24 => if v24 ≤ s23.1 then some (.inr (.inl s23.2)) else (E_X12_holdsRule n s23.2 ((((8 : Int32) * (s23.2.1 95 18)) + ((4 : Int32) * a4)) + s23.1)).bind fun v26 => if v26.1 = 0 then some (.inl ((s23.1 + (1 : Int32)), v26.2)) else some (.inr (.inr ((1 : Int32), v26.2)))) n ((0 : Int32), S22)).bind fun (z23 : (ST) ⊕ (Int32 × ST)) => Sum.elim (fun (e23 : ST) => some ((0 : Int32), e23)) (fun (v : (Int32 × ST)) => some v) z23 else some ((0 : Int32), S)
set_option maxRecDepth 100000 in
set_option maxHeartbeats 4000000 in
theorem E_X12_mayBy_ok {n : Nat} (hn : 30000 ≤ n) {K : AK} {R : Nat → Nat → Option Nat} {S : ST} {a1 : Int32} {a2 : Int32} {a3 : Int32} {a4 : Int32} {a5 : Int32} {tz en : Nat} (hL : Lay K R tz en) {o : (Int32 × ST)} (h : E_X12_mayBy n S a1 a2 a3 a4 a5 = some o) : F_X12_mayBy n (mkM K R S) 95 a1 a2 a3 a4 a5 = some (o.1, mkM K R o.2) := by
  unfold E_X12_mayBy at h
  unfold F_X12_mayBy
  refine eCV (kd_95 hL) (Nat.le_of_ble_eq_true rfl) (fun _ hv => E_X12_placeOf_ok hn hL hv) h (fun v1 h => ?_)
  refine eIF h (fun c2 h => ?_) (fun c2 h => ?_)
  · exact eLeaf (θ := (fun (o : (Int32 × ST)) => (o.1, mkM K R o.2))) h rfl
  · refine eIF h (fun c3 h => ?_) (fun c3 h => ?_)
    · exact eLeaf (θ := (fun (o : (Int32 × ST)) => (o.1, mkM K R o.2))) h rfl
    · refine eIF h (fun c4 h => ?_) (fun c4 h => ?_)
      · exact eLeaf (θ := (fun (o : (Int32 × ST)) => (o.1, mkM K R o.2))) h rfl
      · refine eCV (kd_95 hL) (Nat.le_of_ble_eq_true rfl) (fun _ hv => E_X12_placeOf_ok hn hL hv) h (fun v5 h => ?_)
        refine eIF h (fun c6 h => ?_) (fun c6 h => ?_)
        · refine eIF h (fun c7 h => ?_) (fun c7 h => ?_)
          · exact eLeaf (θ := (fun (o : (Int32 × ST)) => (o.1, mkM K R o.2))) h rfl
          · refine eCV (kd_95 hL) (Nat.le_of_ble_eq_true rfl) (fun _ hv => E_X12_ageAt_ok hn hL hv) h (fun v8 h => ?_)
            refine eCV (kd_95 hL) (Nat.le_of_ble_eq_true rfl) (fun _ hv => E_X12_ageAt_ok hn hL hv) h (fun v9 h => ?_)
            refine eIF h (fun c10 h => ?_) (fun c10 h => ?_)
            · refine eIF h (fun c11 h => ?_) (fun c11 h => ?_)
              · exact eLeaf (θ := (fun (o : (Int32 × ST)) => (o.1, mkM K R o.2))) h rfl
              · exact eLeaf (θ := (fun (o : (Int32 × ST)) => (o.1, mkM K R o.2))) h rfl
            · refine eGR (kd_95 hL) (Nat.le_of_ble_eq_true rfl) (rd_95_43 hL) ?_
              refine eGI (kd_95 hL) (Nat.le_of_ble_eq_true rfl) ?_
              refine eRI (kd_125 hL) h (fun v12 h => ?_)
              refine eIF h (fun c13 h => ?_) (fun c13 h => ?_)
              · refine eJN (fun j14 fj14 => j14 = some o → fj14 = some (o.1, mkM K R o.2)) h ?_ ?_
                · intro h
                  exact eLeaf (θ := (fun (o : (Int32 × ST)) => (o.1, mkM K R o.2))) h rfl
                · intro j14 fj14 Jj14 h
                  refine eIF h (fun c15 h => ?_) (fun c15 h => ?_)
                  · exact Jj14 h
                  · refine eIF h (fun c16 h => ?_) (fun c16 h => ?_)
                    · exact eLeaf (θ := (fun (o : (Int32 × ST)) => (o.1, mkM K R o.2))) h rfl
                    · exact Jj14 h
              · refine eGR (kd_95 hL) (Nat.le_of_ble_eq_true rfl) (rd_95_58 hL) ?_
                refine eWI (kd_137 hL) (Nat.le_of_ble_eq_true rfl) h (fun S17 h => ?_)
                refine eGR (kd_95 hL) (Nat.le_of_ble_eq_true rfl) (rd_95_58 hL) ?_
                refine eWI (kd_137 hL) (Nat.le_of_ble_eq_true rfl) h (fun S18 h => ?_)
                refine eGR (kd_95 hL) (Nat.le_of_ble_eq_true rfl) (rd_95_58 hL) ?_
                refine eWI (kd_137 hL) (Nat.le_of_ble_eq_true rfl) h (fun S19 h => ?_)
                refine eGR (kd_95 hL) (Nat.le_of_ble_eq_true rfl) (rd_95_58 hL) ?_
                refine eCV (kd_95 hL) (Nat.le_of_ble_eq_true rfl) (fun _ hv => E_X12_crowdAt_ok hn hL hv) h (fun v20 h => ?_)
                refine eCS (fun _ hv => E_X12_bits_ok hn hL hv) h (fun v21 h => ?_)
                refine eWI (kd_137 hL) (Nat.le_of_ble_eq_true rfl) h (fun S22 h => ?_)
                refine eLP (fun (s23 : Int32 × ST) => (s23.1, mkM K R s23.2)) (Sum.map (fun (e23 : ST) => mkM K R e23) (fun (v : (Int32 × ST)) => (v.1, mkM K R v.2))) h rfl ?_ ?_
                · intro s23 x23 h
                  refine eGR (kd_95 hL) (Nat.le_of_ble_eq_true rfl) (rd_95_43 hL) ?_
                  refine eGI (kd_95 hL) (Nat.le_of_ble_eq_true rfl) ?_
                  refine eRI (kd_125 hL) h (fun v24 h => ?_)
                  refine eIF h (fun c25 h => ?_) (fun c25 h => ?_)
                  · exact eLeaf (θ := (Sum.map (fun (s23 : Int32 × ST) => (s23.1, mkM K R s23.2)) (Sum.map (fun (e23 : ST) => mkM K R e23) (fun (v : (Int32 × ST)) => (v.1, mkM K R v.2))))) h rfl
                  · refine eGI (kd_95 hL) (Nat.le_of_ble_eq_true rfl) ?_
                    refine eCwiV (kd_95 hL) (Nat.le_of_ble_eq_true rfl) (fun _ hv => E_X12_holdsRule_ok hn hL hv) h (fun v26 h => ?_)
                    refine eIF h (fun c27 h => ?_) (fun c27 h => ?_)
                    · exact eLeaf (θ := (Sum.map (fun (s23 : Int32 × ST) => (s23.1, mkM K R s23.2)) (Sum.map (fun (e23 : ST) => mkM K R e23) (fun (v : (Int32 × ST)) => (v.1, mkM K R v.2))))) h rfl
                    · exact eLeaf (θ := (Sum.map (fun (s23 : Int32 × ST) => (s23.1, mkM K R s23.2)) (Sum.map (fun (e23 : ST) => mkM K R e23) (fun (v : (Int32 × ST)) => (v.1, mkM K R v.2))))) h rfl
                · intro z23 h
                  rcases z23 with e23 | v
                  · have h := sum_inl h
                    exact eLeaf (θ := (fun (o : (Int32 × ST)) => (o.1, mkM K R o.2))) h rfl
                  · have h := sum_inr h
                    exact eLeaf (θ := (fun (o : (Int32 × ST)) => (o.1, mkM K R o.2))) h rfl
        · exact eLeaf (θ := (fun (o : (Int32 × ST)) => (o.1, mkM K R o.2))) h rfl
-- OnlyUpwardModel.may(IIIZ)I
set_option maxRecDepth 100000 in
set_option maxHeartbeats 4000000 in
def E_X12_may (n : Nat) (S : ST) (a1 : Int32) (a2 : Int32) (a3 : Int32) (a4 : Int32) : Option (Int32 × ST) :=
  (E_X12_isPerson n S a1).bind fun v1 => if v1 = 0 then some ((-1 : Int32), S) else (E_X12_isPerson n S a2).bind fun v3 => if v3 = 0 then some ((-1 : Int32), S) else if a1 = a2 then some ((-1 : Int32), S) else (E_X12_isHour n S a3).bind fun v6 => if v6 = 0 then some ((-1 : Int32), S) else jn (fun (u8 : Int32) => (E_X12_mayBy n S a1 a2 a3 u8 (0 : Int32)).bind fun v9 => if v9.1 = 0 then some ((0 : Int32), v9.2) else some ((1 : Int32), v9.2)) fun j11 => if a4 = 0 then j11 (0 : Int32) else j11 (1 : Int32)
set_option maxRecDepth 100000 in
set_option maxHeartbeats 4000000 in
theorem E_X12_may_ok {n : Nat} (hn : 30000 ≤ n) {K : AK} {R : Nat → Nat → Option Nat} {S : ST} {a1 : Int32} {a2 : Int32} {a3 : Int32} {a4 : Int32} {tz en : Nat} (hL : Lay K R tz en) {o : (Int32 × ST)} (h : E_X12_may n S a1 a2 a3 a4 = some o) : F_X12_may n (mkM K R S) 95 a1 a2 a3 a4 = some (o.1, mkM K R o.2) := by
  unfold E_X12_may at h
  unfold F_X12_may
  refine eCV (kd_95 hL) (Nat.le_of_ble_eq_true rfl) (fun _ hv => E_X12_isPerson_ok hn hL hv) h (fun v1 h => ?_)
  refine eIF h (fun c2 h => ?_) (fun c2 h => ?_)
  · exact eLeaf (θ := (fun (o : (Int32 × ST)) => (o.1, mkM K R o.2))) h rfl
  · refine eCV (kd_95 hL) (Nat.le_of_ble_eq_true rfl) (fun _ hv => E_X12_isPerson_ok hn hL hv) h (fun v3 h => ?_)
    refine eIF h (fun c4 h => ?_) (fun c4 h => ?_)
    · exact eLeaf (θ := (fun (o : (Int32 × ST)) => (o.1, mkM K R o.2))) h rfl
    · refine eIF h (fun c5 h => ?_) (fun c5 h => ?_)
      · exact eLeaf (θ := (fun (o : (Int32 × ST)) => (o.1, mkM K R o.2))) h rfl
      · refine eCS (fun _ hv => E_X12_isHour_ok hn hL hv) h (fun v6 h => ?_)
        refine eIF h (fun c7 h => ?_) (fun c7 h => ?_)
        · exact eLeaf (θ := (fun (o : (Int32 × ST)) => (o.1, mkM K R o.2))) h rfl
        · refine eJN (fun j11 fj11 => ∀ (u8 : Int32), j11 u8 = some o → fj11 u8 = some (o.1, mkM K R o.2)) h ?_ ?_
          · intro u8 h
            refine eCwiV (kd_95 hL) (Nat.le_of_ble_eq_true rfl) (fun _ hv => E_X12_mayBy_ok hn hL hv) h (fun v9 h => ?_)
            refine eIF h (fun c10 h => ?_) (fun c10 h => ?_)
            · exact eLeaf (θ := (fun (o : (Int32 × ST)) => (o.1, mkM K R o.2))) h rfl
            · exact eLeaf (θ := (fun (o : (Int32 × ST)) => (o.1, mkM K R o.2))) h rfl
          · intro j11 fj11 Jj11 h
            refine eIF h (fun c12 h => ?_) (fun c12 h => ?_)
            · exact Jj11 _ h
            · exact Jj11 _ h
-- OnlyUpwardModel.canPlan(II)Z
set_option maxRecDepth 100000 in
set_option maxHeartbeats 4000000 in
def E_X12_canPlan (n : Nat) (S : ST) (a1 : Int32) (a2 : Int32) : Option Int32 :=
  if (30 : Int32) ≤ (S.1 95 62) then some (0 : Int32) else (E_X12_isHour n S a1).bind fun v2 => if v2 = 0 then some (0 : Int32) else (E_X12_isPerson n S a2).bind fun v4 => if v4 = 0 then some (0 : Int32) else some (1 : Int32)
set_option maxRecDepth 100000 in
set_option maxHeartbeats 4000000 in
theorem E_X12_canPlan_ok {n : Nat} (hn : 30000 ≤ n) {K : AK} {R : Nat → Nat → Option Nat} {S : ST} {a1 : Int32} {a2 : Int32} {tz en : Nat} (hL : Lay K R tz en) {o : Int32} (h : E_X12_canPlan n S a1 a2 = some o) : F_X12_canPlan n (mkM K R S) 95 a1 a2 = some o := by
  unfold E_X12_canPlan at h
  unfold F_X12_canPlan
  refine eGI (kd_95 hL) (Nat.le_of_ble_eq_true rfl) ?_
  refine eIF h (fun c1 h => ?_) (fun c1 h => ?_)
  · exact eLeaf (θ := (fun (o : Int32) => o)) h rfl
  · refine eCS (fun _ hv => E_X12_isHour_ok hn hL hv) h (fun v2 h => ?_)
    refine eIF h (fun c3 h => ?_) (fun c3 h => ?_)
    · exact eLeaf (θ := (fun (o : Int32) => o)) h rfl
    · refine eCV (kd_95 hL) (Nat.le_of_ble_eq_true rfl) (fun _ hv => E_X12_isPerson_ok hn hL hv) h (fun v4 h => ?_)
      refine eIF h (fun c5 h => ?_) (fun c5 h => ?_)
      · exact eLeaf (θ := (fun (o : Int32) => o)) h rfl
      · exact eLeaf (θ := (fun (o : Int32) => o)) h rfl
-- OnlyUpwardModel.isThing(I)Z
set_option maxRecDepth 100000 in
set_option maxHeartbeats 4000000 in
def E_X12_isThing (n : Nat) (S : ST) (a1 : Int32) : Option Int32 :=
  (E_X12_has n S (2 : Int32)).bind fun v1 => (E_X12_in n S a1 (0 : Int32) (v1 - (1 : Int32))).bind fun v2 => gd (narrow .boolean (.int v2) = .int v2) (some v2)
set_option maxRecDepth 100000 in
set_option maxHeartbeats 4000000 in
theorem E_X12_isThing_ok {n : Nat} (hn : 30000 ≤ n) {K : AK} {R : Nat → Nat → Option Nat} {S : ST} {a1 : Int32} {tz en : Nat} (hL : Lay K R tz en) {o : Int32} (h : E_X12_isThing n S a1 = some o) : F_X12_isThing n (mkM K R S) 95 a1 = some o := by
  unfold E_X12_isThing at h
  unfold F_X12_isThing
  refine eCV (kd_95 hL) (Nat.le_of_ble_eq_true rfl) (fun _ hv => E_X12_has_ok hn hL hv) h (fun v1 h => ?_)
  refine eCS (fun _ hv => E_X12_in_ok hn hL hv) h (fun v2 h => ?_)
  refine eGD h (fun c3 h => ?_)
  exact eLeaf (θ := (fun (o : Int32) => o)) h rfl
-- OnlyUpwardModel.plans(IIIII)I
set_option maxRecDepth 100000 in
set_option maxHeartbeats 4000000 in
def E_X12_plans (n : Nat) (S : ST) (a1 : Int32) (a2 : Int32) (a3 : Int32) (a4 : Int32) (a5 : Int32) : Option (Int32 × ST) :=
  (wr S 139 30 (S.1 95 62) a1).bind fun S1 => (wr S1 140 30 (S1.1 95 62) a2).bind fun S2 => (wr S2 141 30 (S2.1 95 62) a3).bind fun S3 => (wr S3 142 30 (S3.1 95 62) a4).bind fun S4 => (wr S4 143 30 (S4.1 95 62) a5).bind fun S5 => lets (upI S5 95 62 ((S5.1 95 62) + (1 : Int32))) fun (S6 : ST) => some (((S6.1 95 62) - (1 : Int32)), S6)
set_option maxRecDepth 100000 in
set_option maxHeartbeats 4000000 in
theorem E_X12_plans_ok {n : Nat} (hn : 30000 ≤ n) {K : AK} {R : Nat → Nat → Option Nat} {S : ST} {a1 : Int32} {a2 : Int32} {a3 : Int32} {a4 : Int32} {a5 : Int32} {tz en : Nat} (hL : Lay K R tz en) {o : (Int32 × ST)} (h : E_X12_plans n S a1 a2 a3 a4 a5 = some o) : F_X12_plans n (mkM K R S) 95 a1 a2 a3 a4 a5 = some (o.1, mkM K R o.2) := by
  unfold E_X12_plans at h
  unfold F_X12_plans
  refine eGR (kd_95 hL) (Nat.le_of_ble_eq_true rfl) (rd_95_63 hL) ?_
  refine eGI (kd_95 hL) (Nat.le_of_ble_eq_true rfl) ?_
  refine eWI (kd_139 hL) (Nat.le_of_ble_eq_true rfl) h (fun S1 h => ?_)
  refine eGR (kd_95 hL) (Nat.le_of_ble_eq_true rfl) (rd_95_64 hL) ?_
  refine eGI (kd_95 hL) (Nat.le_of_ble_eq_true rfl) ?_
  refine eWI (kd_140 hL) (Nat.le_of_ble_eq_true rfl) h (fun S2 h => ?_)
  refine eGR (kd_95 hL) (Nat.le_of_ble_eq_true rfl) (rd_95_65 hL) ?_
  refine eGI (kd_95 hL) (Nat.le_of_ble_eq_true rfl) ?_
  refine eWI (kd_141 hL) (Nat.le_of_ble_eq_true rfl) h (fun S3 h => ?_)
  refine eGR (kd_95 hL) (Nat.le_of_ble_eq_true rfl) (rd_95_66 hL) ?_
  refine eGI (kd_95 hL) (Nat.le_of_ble_eq_true rfl) ?_
  refine eWI (kd_142 hL) (Nat.le_of_ble_eq_true rfl) h (fun S4 h => ?_)
  refine eGR (kd_95 hL) (Nat.le_of_ble_eq_true rfl) (rd_95_67 hL) ?_
  refine eGI (kd_95 hL) (Nat.le_of_ble_eq_true rfl) ?_
  refine eWI (kd_143 hL) (Nat.le_of_ble_eq_true rfl) h (fun S5 h => ?_)
  refine eGI (kd_95 hL) (Nat.le_of_ble_eq_true rfl) ?_
  refine ePI (kd_95 hL) (Nat.le_of_ble_eq_true rfl) h (fun S6 h => ?_)
  refine eGI (kd_95 hL) (Nat.le_of_ble_eq_true rfl) ?_
  exact eLeaf (θ := (fun (o : (Int32 × ST)) => (o.1, mkM K R o.2))) h rfl
-- OnlyUpwardModel.say(IIII)I
set_option maxRecDepth 100000 in
set_option maxHeartbeats 4000000 in
def E_X12_say (n : Nat) (S : ST) (a1 : Int32) (a2 : Int32) (a3 : Int32) (a4 : Int32) : Option (Int32 × ST) :=
  (E_X12_canPlan n S a1 a2).bind fun v1 => if v1 = 0 then some ((-1 : Int32), S) else (E_X12_isPerson n S a3).bind fun v3 => if v3 = 0 then some ((-1 : Int32), S) else if a2 = a3 then some ((-1 : Int32), S) else (E_X12_isThing n S a4).bind fun v6 => if v6 = 0 then some ((-1 : Int32), S) else (E_X12_plans n S (0 : Int32) a1 a2 a3 a4).bind fun v8 => some (v8.1, v8.2)
set_option maxRecDepth 100000 in
set_option maxHeartbeats 4000000 in
theorem E_X12_say_ok {n : Nat} (hn : 30000 ≤ n) {K : AK} {R : Nat → Nat → Option Nat} {S : ST} {a1 : Int32} {a2 : Int32} {a3 : Int32} {a4 : Int32} {tz en : Nat} (hL : Lay K R tz en) {o : (Int32 × ST)} (h : E_X12_say n S a1 a2 a3 a4 = some o) : F_X12_say n (mkM K R S) 95 a1 a2 a3 a4 = some (o.1, mkM K R o.2) := by
  unfold E_X12_say at h
  unfold F_X12_say
  refine eCV (kd_95 hL) (Nat.le_of_ble_eq_true rfl) (fun _ hv => E_X12_canPlan_ok hn hL hv) h (fun v1 h => ?_)
  refine eIF h (fun c2 h => ?_) (fun c2 h => ?_)
  · exact eLeaf (θ := (fun (o : (Int32 × ST)) => (o.1, mkM K R o.2))) h rfl
  · refine eCV (kd_95 hL) (Nat.le_of_ble_eq_true rfl) (fun _ hv => E_X12_isPerson_ok hn hL hv) h (fun v3 h => ?_)
    refine eIF h (fun c4 h => ?_) (fun c4 h => ?_)
    · exact eLeaf (θ := (fun (o : (Int32 × ST)) => (o.1, mkM K R o.2))) h rfl
    · refine eIF h (fun c5 h => ?_) (fun c5 h => ?_)
      · exact eLeaf (θ := (fun (o : (Int32 × ST)) => (o.1, mkM K R o.2))) h rfl
      · refine eCV (kd_95 hL) (Nat.le_of_ble_eq_true rfl) (fun _ hv => E_X12_isThing_ok hn hL hv) h (fun v6 h => ?_)
        refine eIF h (fun c7 h => ?_) (fun c7 h => ?_)
        · exact eLeaf (θ := (fun (o : (Int32 × ST)) => (o.1, mkM K R o.2))) h rfl
        · refine eCwiV (kd_95 hL) (Nat.le_of_ble_eq_true rfl) (fun _ hv => E_X12_plans_ok hn hL hv) h (fun v8 h => ?_)
          exact eLeaf (θ := (fun (o : (Int32 × ST)) => (o.1, mkM K R o.2))) h rfl
-- OnlyUpwardModel.isAct(I)Z
set_option maxRecDepth 100000 in
set_option maxHeartbeats 4000000 in
def E_X12_isAct (n : Nat) (S : ST) (a1 : Int32) : Option Int32 :=
  (E_X12_has n S (7 : Int32)).bind fun v1 => (E_X12_in n S a1 (0 : Int32) (v1 - (1 : Int32))).bind fun v2 => gd (narrow .boolean (.int v2) = .int v2) (some v2)
set_option maxRecDepth 100000 in
set_option maxHeartbeats 4000000 in
theorem E_X12_isAct_ok {n : Nat} (hn : 30000 ≤ n) {K : AK} {R : Nat → Nat → Option Nat} {S : ST} {a1 : Int32} {tz en : Nat} (hL : Lay K R tz en) {o : Int32} (h : E_X12_isAct n S a1 = some o) : F_X12_isAct n (mkM K R S) 95 a1 = some o := by
  unfold E_X12_isAct at h
  unfold F_X12_isAct
  refine eCV (kd_95 hL) (Nat.le_of_ble_eq_true rfl) (fun _ hv => E_X12_has_ok hn hL hv) h (fun v1 h => ?_)
  refine eCS (fun _ hv => E_X12_in_ok hn hL hv) h (fun v2 h => ?_)
  refine eGD h (fun c3 h => ?_)
  exact eLeaf (θ := (fun (o : Int32) => o)) h rfl
-- OnlyUpwardModel.show(III)I
set_option maxRecDepth 100000 in
set_option maxHeartbeats 4000000 in
def E_X12_show (n : Nat) (S : ST) (a1 : Int32) (a2 : Int32) (a3 : Int32) : Option (Int32 × ST) :=
  (E_X12_canPlan n S a1 a2).bind fun v1 => if v1 = 0 then some ((-1 : Int32), S) else (E_X12_isAct n S a3).bind fun v3 => if v3 = 0 then some ((-1 : Int32), S) else (rd (S.1 122) 12 (((6 : Int32) * (S.1 95 18)) + a3)).bind fun v5 => (E_X12_plans n S (1 : Int32) a1 a2 a3 v5).bind fun v6 => some (v6.1, v6.2)
set_option maxRecDepth 100000 in
set_option maxHeartbeats 4000000 in
theorem E_X12_show_ok {n : Nat} (hn : 30000 ≤ n) {K : AK} {R : Nat → Nat → Option Nat} {S : ST} {a1 : Int32} {a2 : Int32} {a3 : Int32} {tz en : Nat} (hL : Lay K R tz en) {o : (Int32 × ST)} (h : E_X12_show n S a1 a2 a3 = some o) : F_X12_show n (mkM K R S) 95 a1 a2 a3 = some (o.1, mkM K R o.2) := by
  unfold E_X12_show at h
  unfold F_X12_show
  refine eCV (kd_95 hL) (Nat.le_of_ble_eq_true rfl) (fun _ hv => E_X12_canPlan_ok hn hL hv) h (fun v1 h => ?_)
  refine eIF h (fun c2 h => ?_) (fun c2 h => ?_)
  · exact eLeaf (θ := (fun (o : (Int32 × ST)) => (o.1, mkM K R o.2))) h rfl
  · refine eCV (kd_95 hL) (Nat.le_of_ble_eq_true rfl) (fun _ hv => E_X12_isAct_ok hn hL hv) h (fun v3 h => ?_)
    refine eIF h (fun c4 h => ?_) (fun c4 h => ?_)
    · exact eLeaf (θ := (fun (o : (Int32 × ST)) => (o.1, mkM K R o.2))) h rfl
    · refine eGR (kd_95 hL) (Nat.le_of_ble_eq_true rfl) (rd_95_40 hL) ?_
      refine eGI (kd_95 hL) (Nat.le_of_ble_eq_true rfl) ?_
      refine eRI (kd_122 hL) h (fun v5 h => ?_)
      refine eCwiV (kd_95 hL) (Nat.le_of_ble_eq_true rfl) (fun _ hv => E_X12_plans_ok hn hL hv) h (fun v6 h => ?_)
      exact eLeaf (θ := (fun (o : (Int32 × ST)) => (o.1, mkM K R o.2))) h rfl
-- OnlyUpwardModel.leave(III)I
set_option maxRecDepth 100000 in
set_option maxHeartbeats 4000000 in
def E_X12_leave (n : Nat) (S : ST) (a1 : Int32) (a2 : Int32) (a3 : Int32) : Option (Int32 × ST) :=
  (E_X12_canPlan n S a1 a2).bind fun v1 => if v1 = 0 then some ((-1 : Int32), S) else (E_X12_isThing n S a3).bind fun v3 => if v3 = 0 then some ((-1 : Int32), S) else (E_X12_plans n S (2 : Int32) a1 a2 (-1 : Int32) a3).bind fun v5 => some (v5.1, v5.2)
set_option maxRecDepth 100000 in
set_option maxHeartbeats 4000000 in
theorem E_X12_leave_ok {n : Nat} (hn : 30000 ≤ n) {K : AK} {R : Nat → Nat → Option Nat} {S : ST} {a1 : Int32} {a2 : Int32} {a3 : Int32} {tz en : Nat} (hL : Lay K R tz en) {o : (Int32 × ST)} (h : E_X12_leave n S a1 a2 a3 = some o) : F_X12_leave n (mkM K R S) 95 a1 a2 a3 = some (o.1, mkM K R o.2) := by
  unfold E_X12_leave at h
  unfold F_X12_leave
  refine eCV (kd_95 hL) (Nat.le_of_ble_eq_true rfl) (fun _ hv => E_X12_canPlan_ok hn hL hv) h (fun v1 h => ?_)
  refine eIF h (fun c2 h => ?_) (fun c2 h => ?_)
  · exact eLeaf (θ := (fun (o : (Int32 × ST)) => (o.1, mkM K R o.2))) h rfl
  · refine eCV (kd_95 hL) (Nat.le_of_ble_eq_true rfl) (fun _ hv => E_X12_isThing_ok hn hL hv) h (fun v3 h => ?_)
    refine eIF h (fun c4 h => ?_) (fun c4 h => ?_)
    · exact eLeaf (θ := (fun (o : (Int32 × ST)) => (o.1, mkM K R o.2))) h rfl
    · refine eCwiV (kd_95 hL) (Nat.le_of_ble_eq_true rfl) (fun _ hv => E_X12_plans_ok hn hL hv) h (fun v5 h => ?_)
      exact eLeaf (θ := (fun (o : (Int32 × ST)) => (o.1, mkM K R o.2))) h rfl
-- OnlyUpwardModel.ask(IIII)I
set_option maxRecDepth 100000 in
set_option maxHeartbeats 4000000 in
def E_X12_ask (n : Nat) (S : ST) (a1 : Int32) (a2 : Int32) (a3 : Int32) (a4 : Int32) : Option (Int32 × ST) :=
  (E_X12_canPlan n S a1 a2).bind fun v1 => if v1 = 0 then some ((-1 : Int32), S) else (E_X12_isPerson n S a3).bind fun v3 => if v3 = 0 then some ((-1 : Int32), S) else if a2 = a3 then some ((-1 : Int32), S) else (E_X12_isThing n S a4).bind fun v6 => if v6 = 0 then some ((-1 : Int32), S) else (E_X12_plans n S (3 : Int32) a1 a2 a3 a4).bind fun v8 => some (v8.1, v8.2)
set_option maxRecDepth 100000 in
set_option maxHeartbeats 4000000 in
theorem E_X12_ask_ok {n : Nat} (hn : 30000 ≤ n) {K : AK} {R : Nat → Nat → Option Nat} {S : ST} {a1 : Int32} {a2 : Int32} {a3 : Int32} {a4 : Int32} {tz en : Nat} (hL : Lay K R tz en) {o : (Int32 × ST)} (h : E_X12_ask n S a1 a2 a3 a4 = some o) : F_X12_ask n (mkM K R S) 95 a1 a2 a3 a4 = some (o.1, mkM K R o.2) := by
  unfold E_X12_ask at h
  unfold F_X12_ask
  refine eCV (kd_95 hL) (Nat.le_of_ble_eq_true rfl) (fun _ hv => E_X12_canPlan_ok hn hL hv) h (fun v1 h => ?_)
  refine eIF h (fun c2 h => ?_) (fun c2 h => ?_)
  · exact eLeaf (θ := (fun (o : (Int32 × ST)) => (o.1, mkM K R o.2))) h rfl
  · refine eCV (kd_95 hL) (Nat.le_of_ble_eq_true rfl) (fun _ hv => E_X12_isPerson_ok hn hL hv) h (fun v3 h => ?_)
    refine eIF h (fun c4 h => ?_) (fun c4 h => ?_)
    · exact eLeaf (θ := (fun (o : (Int32 × ST)) => (o.1, mkM K R o.2))) h rfl
    · refine eIF h (fun c5 h => ?_) (fun c5 h => ?_)
      · exact eLeaf (θ := (fun (o : (Int32 × ST)) => (o.1, mkM K R o.2))) h rfl
      · refine eCV (kd_95 hL) (Nat.le_of_ble_eq_true rfl) (fun _ hv => E_X12_isThing_ok hn hL hv) h (fun v6 h => ?_)
        refine eIF h (fun c7 h => ?_) (fun c7 h => ?_)
        · exact eLeaf (θ := (fun (o : (Int32 × ST)) => (o.1, mkM K R o.2))) h rfl
        · refine eCwiV (kd_95 hL) (Nat.le_of_ble_eq_true rfl) (fun _ hv => E_X12_plans_ok hn hL hv) h (fun v8 h => ?_)
          exact eLeaf (θ := (fun (o : (Int32 × ST)) => (o.1, mkM K R o.2))) h rfl
-- OnlyUpwardModel.drop(I)I
set_option maxRecDepth 100000 in
set_option maxHeartbeats 4000000 in
def E_X12_drop (n : Nat) (S : ST) (a1 : Int32) : Option (Int32 × ST) :=
  (E_X12_in n S a1 (0 : Int32) ((S.1 95 62) - (1 : Int32))).bind fun v1 => if v1 = 0 then some ((-1 : Int32), S) else lets (upI S 95 62 ((S.1 95 62) - (1 : Int32))) fun (S3 : ST) => (iter (fun (s4 : Int32 × ST) => if (s4.2.1 95 62) ≤ s4.1 then some (.inr s4.2) else (rd (s4.2.1 139) 30 (s4.1 + (1 : Int32))).bind fun v6 => (wr s4.2 139 30 s4.1 v6).bind fun S7 => (rd (S7.1 140) 30 (s4.1 + (1 : Int32))).bind fun v8 => (wr S7 140 30 s4.1 v8).bind fun S9 => (rd (S9.1 141) 30 (s4.1 + (1 : Int32))).bind fun v10 => (wr S9 141 30 s4.1 v10).bind fun S11 => (rd (S11.1 142) 30 (s4.1 + (1 : Int32))).bind fun v12 => (wr S11 142 30 s4.1 v12).bind fun S13 => (rd (S13.1 143) 30 (s4.1 + (1 : Int32))).bind fun v14 => (wr S13 143 30 s4.1 v14).bind fun S15 => some (.inl ((s4.1 + (1 : Int32)), S15))) n (a1, S3)).bind fun (e4 : ST) => some ((e4.1 95 62), e4)
set_option maxRecDepth 100000 in
set_option maxHeartbeats 4000000 in
theorem E_X12_drop_ok {n : Nat} (hn : 30000 ≤ n) {K : AK} {R : Nat → Nat → Option Nat} {S : ST} {a1 : Int32} {tz en : Nat} (hL : Lay K R tz en) {o : (Int32 × ST)} (h : E_X12_drop n S a1 = some o) : F_X12_drop n (mkM K R S) 95 a1 = some (o.1, mkM K R o.2) := by
  unfold E_X12_drop at h
  unfold F_X12_drop
  refine eGI (kd_95 hL) (Nat.le_of_ble_eq_true rfl) ?_
  refine eCS (fun _ hv => E_X12_in_ok hn hL hv) h (fun v1 h => ?_)
  refine eIF h (fun c2 h => ?_) (fun c2 h => ?_)
  · exact eLeaf (θ := (fun (o : (Int32 × ST)) => (o.1, mkM K R o.2))) h rfl
  · refine eGI (kd_95 hL) (Nat.le_of_ble_eq_true rfl) ?_
    refine ePI (kd_95 hL) (Nat.le_of_ble_eq_true rfl) h (fun S3 h => ?_)
    refine eLP (fun (s4 : Int32 × ST) => (s4.1, mkM K R s4.2)) (fun (e4 : ST) => mkM K R e4) h rfl ?_ ?_
    · intro s4 x4 h
      refine eGI (kd_95 hL) (Nat.le_of_ble_eq_true rfl) ?_
      refine eIF h (fun c5 h => ?_) (fun c5 h => ?_)
      · exact eLeaf (θ := (Sum.map (fun (s4 : Int32 × ST) => (s4.1, mkM K R s4.2)) (fun (e4 : ST) => mkM K R e4))) h rfl
      · refine eGR (kd_95 hL) (Nat.le_of_ble_eq_true rfl) (rd_95_63 hL) ?_
        refine eGR (kd_95 hL) (Nat.le_of_ble_eq_true rfl) (rd_95_63 hL) ?_
        refine eRI (kd_139 hL) h (fun v6 h => ?_)
        refine eWI (kd_139 hL) (Nat.le_of_ble_eq_true rfl) h (fun S7 h => ?_)
        refine eGR (kd_95 hL) (Nat.le_of_ble_eq_true rfl) (rd_95_64 hL) ?_
        refine eGR (kd_95 hL) (Nat.le_of_ble_eq_true rfl) (rd_95_64 hL) ?_
        refine eRI (kd_140 hL) h (fun v8 h => ?_)
        refine eWI (kd_140 hL) (Nat.le_of_ble_eq_true rfl) h (fun S9 h => ?_)
        refine eGR (kd_95 hL) (Nat.le_of_ble_eq_true rfl) (rd_95_65 hL) ?_
        refine eGR (kd_95 hL) (Nat.le_of_ble_eq_true rfl) (rd_95_65 hL) ?_
        refine eRI (kd_141 hL) h (fun v10 h => ?_)
        refine eWI (kd_141 hL) (Nat.le_of_ble_eq_true rfl) h (fun S11 h => ?_)
        refine eGR (kd_95 hL) (Nat.le_of_ble_eq_true rfl) (rd_95_66 hL) ?_
        refine eGR (kd_95 hL) (Nat.le_of_ble_eq_true rfl) (rd_95_66 hL) ?_
        refine eRI (kd_142 hL) h (fun v12 h => ?_)
        refine eWI (kd_142 hL) (Nat.le_of_ble_eq_true rfl) h (fun S13 h => ?_)
        refine eGR (kd_95 hL) (Nat.le_of_ble_eq_true rfl) (rd_95_67 hL) ?_
        refine eGR (kd_95 hL) (Nat.le_of_ble_eq_true rfl) (rd_95_67 hL) ?_
        refine eRI (kd_143 hL) h (fun v14 h => ?_)
        refine eWI (kd_143 hL) (Nat.le_of_ble_eq_true rfl) h (fun S15 h => ?_)
        exact eLeaf (θ := (Sum.map (fun (s4 : Int32 × ST) => (s4.1, mkM K R s4.2)) (fun (e4 : ST) => mkM K R e4))) h rfl
    · intro e4 h
      refine eGI (kd_95 hL) (Nat.le_of_ble_eq_true rfl) ?_
      exact eLeaf (θ := (fun (o : (Int32 × ST)) => (o.1, mkM K R o.2))) h rfl
-- OnlyUpwardModel.startsKnowing()V
set_option maxRecDepth 100000 in
set_option maxHeartbeats 4000000 in
def E_X12_startsKnowing (n : Nat) (S : ST) : Option ST :=
  (iter (fun (s1 : Int32 × ST) => if (250 : Int32) ≤ s1.1 then some (.inr s1.2) else (wr s1.2 144 250 s1.1 (0 : Int32)).bind fun S3 => some (.inl ((s1.1 + (1 : Int32)), S3))) n ((0 : Int32), S)).bind fun (e1 : ST) => (iter (fun (s4 : Int32 × ST) => (E_X12_has n s4.2 (5 : Int32)).bind fun v5 => if v5 ≤ s4.1 then some (.inr s4.2) else (rd (s4.2.1 117) 24 (((12 : Int32) * (s4.2.1 95 18)) + s4.1)).bind fun v7 => (rd (s4.2.1 144) 250 v7).bind fun v8 => (rd (s4.2.1 118) 24 (((12 : Int32) * (s4.2.1 95 18)) + s4.1)).bind fun v9 => (wr s4.2 144 250 v7 (v8 ||| ((1 : Int32) <<< (v9 &&& 31)))).bind fun S10 => some (.inl ((s4.1 + (1 : Int32)), S10))) n ((0 : Int32), e1)).bind fun (e4 : ST) => some e4
set_option maxRecDepth 100000 in
set_option maxHeartbeats 4000000 in
theorem E_X12_startsKnowing_ok {n : Nat} (hn : 30000 ≤ n) {K : AK} {R : Nat → Nat → Option Nat} {S : ST} {tz en : Nat} (hL : Lay K R tz en) {o : ST} (h : E_X12_startsKnowing n S  = some o) : F_X12_startsKnowing n (mkM K R S) 95 = some (mkM K R o) := by
  unfold E_X12_startsKnowing at h
  unfold F_X12_startsKnowing
  refine eLP (fun (s1 : Int32 × ST) => (s1.1, mkM K R s1.2)) (fun (e1 : ST) => mkM K R e1) h rfl ?_ ?_
  · intro s1 x1 h
    refine eIF h (fun c2 h => ?_) (fun c2 h => ?_)
    · exact eLeaf (θ := (Sum.map (fun (s1 : Int32 × ST) => (s1.1, mkM K R s1.2)) (fun (e1 : ST) => mkM K R e1))) h rfl
    · refine eGR (kd_95 hL) (Nat.le_of_ble_eq_true rfl) (rd_95_68 hL) ?_
      refine eWI (kd_144 hL) (Nat.le_of_ble_eq_true rfl) h (fun S3 h => ?_)
      exact eLeaf (θ := (Sum.map (fun (s1 : Int32 × ST) => (s1.1, mkM K R s1.2)) (fun (e1 : ST) => mkM K R e1))) h rfl
  · intro e1 h
    refine eLP (fun (s4 : Int32 × ST) => (s4.1, mkM K R s4.2)) (fun (e4 : ST) => mkM K R e4) h rfl ?_ ?_
    · intro s4 x4 h
      refine eCV (kd_95 hL) (Nat.le_of_ble_eq_true rfl) (fun _ hv => E_X12_has_ok hn hL hv) h (fun v5 h => ?_)
      refine eIF h (fun c6 h => ?_) (fun c6 h => ?_)
      · exact eLeaf (θ := (Sum.map (fun (s4 : Int32 × ST) => (s4.1, mkM K R s4.2)) (fun (e4 : ST) => mkM K R e4))) h rfl
      · refine eGR (kd_95 hL) (Nat.le_of_ble_eq_true rfl) (rd_95_68 hL) ?_
        refine eGR (kd_95 hL) (Nat.le_of_ble_eq_true rfl) (rd_95_35 hL) ?_
        refine eGI (kd_95 hL) (Nat.le_of_ble_eq_true rfl) ?_
        refine eRI (kd_117 hL) h (fun v7 h => ?_)
        refine eRI (kd_144 hL) h (fun v8 h => ?_)
        refine eGR (kd_95 hL) (Nat.le_of_ble_eq_true rfl) (rd_95_36 hL) ?_
        refine eGI (kd_95 hL) (Nat.le_of_ble_eq_true rfl) ?_
        refine eRI (kd_118 hL) h (fun v9 h => ?_)
        refine eWI (kd_144 hL) (Nat.le_of_ble_eq_true rfl) h (fun S10 h => ?_)
        exact eLeaf (θ := (Sum.map (fun (s4 : Int32 × ST) => (s4.1, mkM K R s4.2)) (fun (e4 : ST) => mkM K R e4))) h rfl
    · intro e4 h
      exact eLeaf (θ := (fun (o : ST) => (mkM K R o))) h rfl
-- OnlyUpwardModel.mixed(II)I
set_option maxRecDepth 100000 in
set_option maxHeartbeats 4000000 in
def E_X12_mixed (n : Nat) (S : ST) (a0 : Int32) (a1 : Int32) : Option Int32 :=
  lets (((a0 ^^^ a1) * (1103515245 : Int32)) + (12345 : Int32)) fun (w1 : Int32) => some (w1 ^^^ (ush w1 (15 : Int32)))
set_option maxRecDepth 100000 in
set_option maxHeartbeats 4000000 in
theorem E_X12_mixed_ok {n : Nat} (hn : 30000 ≤ n) {K : AK} {R : Nat → Nat → Option Nat} {S : ST} {a0 : Int32} {a1 : Int32} {tz en : Nat} (hL : Lay K R tz en) {o : Int32} (h : E_X12_mixed n S a0 a1 = some o) : F_X12_mixed n (mkM K R S) a0 a1 = some o := by
  unfold E_X12_mixed at h
  unfold F_X12_mixed
  refine eLT h (fun w1 h => ?_)
  exact eLeaf (θ := (fun (o : Int32) => o)) h rfl
-- OnlyUpwardModel.lot(III)I
set_option maxRecDepth 100000 in
set_option maxHeartbeats 4000000 in
def E_X12_lot (n : Nat) (S : ST) (a0 : Int32) (a1 : Int32) (a2 : Int32) : Option Int32 :=
  (E_X12_mixed n S a0 (17 : Int32)).bind fun v1 => (E_X12_mixed n S v1 a1).bind fun v2 => gd (¬ a2 = 0) (some ((ush v2 (1 : Int32)) - (ush v2 (1 : Int32)) / a2 * a2))
set_option maxRecDepth 100000 in
set_option maxHeartbeats 4000000 in
theorem E_X12_lot_ok {n : Nat} (hn : 30000 ≤ n) {K : AK} {R : Nat → Nat → Option Nat} {S : ST} {a0 : Int32} {a1 : Int32} {a2 : Int32} {tz en : Nat} (hL : Lay K R tz en) {o : Int32} (h : E_X12_lot n S a0 a1 a2 = some o) : F_X12_lot n (mkM K R S) a0 a1 a2 = some o := by
  unfold E_X12_lot at h
  unfold F_X12_lot
  refine eCS (fun _ hv => E_X12_mixed_ok hn hL hv) h (fun v1 h => ?_)
  refine eCS (fun _ hv => E_X12_mixed_ok hn hL hv) h (fun v2 h => ?_)
  refine eGD h (fun c3 h => ?_)
  exact eLeaf (θ := (fun (o : Int32) => o)) h rfl
-- OnlyUpwardModel.learn(III)V
set_option maxRecDepth 100000 in
set_option maxHeartbeats 4000000 in
def E_X12_learn (n : Nat) (S : ST) (a1 : Int32) (a2 : Int32) (a3 : Int32) : Option ST :=
  (iter (fun (s1 : Int32 × ST) => (E_X12_has n s1.2 (1 : Int32)).bind fun v2 => if v2 ≤ s1.1 then some (.inr s1.2) else jn (fun (S4 : ST) => some (.inl ((s1.1 + (1 : Int32)), S4))) fun j5 => if ((a1 >>> (s1.1 &&& 31)) &&& (1 : Int32)) = (1 : Int32) then (rd (s1.2.1 144) 250 ((((10 : Int32) * a2) + (10 : Int32)) + s1.1)).bind fun v7 => (wr s1.2 144 250 ((((10 : Int32) * a2) + (10 : Int32)) + s1.1) (v7 ||| a3)).bind fun S8 => j5 S8 else j5 s1.2) n ((0 : Int32), S)).bind fun (e1 : ST) => some e1
set_option maxRecDepth 100000 in
set_option maxHeartbeats 4000000 in
theorem E_X12_learn_ok {n : Nat} (hn : 30000 ≤ n) {K : AK} {R : Nat → Nat → Option Nat} {S : ST} {a1 : Int32} {a2 : Int32} {a3 : Int32} {tz en : Nat} (hL : Lay K R tz en) {o : ST} (h : E_X12_learn n S a1 a2 a3 = some o) : F_X12_learn n (mkM K R S) 95 a1 a2 a3 = some (mkM K R o) := by
  unfold E_X12_learn at h
  unfold F_X12_learn
  refine eLP (fun (s1 : Int32 × ST) => (s1.1, mkM K R s1.2)) (fun (e1 : ST) => mkM K R e1) h rfl ?_ ?_
  · intro s1 x1 h
    refine eCV (kd_95 hL) (Nat.le_of_ble_eq_true rfl) (fun _ hv => E_X12_has_ok hn hL hv) h (fun v2 h => ?_)
    refine eIF h (fun c3 h => ?_) (fun c3 h => ?_)
    · exact eLeaf (θ := (Sum.map (fun (s1 : Int32 × ST) => (s1.1, mkM K R s1.2)) (fun (e1 : ST) => mkM K R e1))) h rfl
    · refine eJN (fun j5 fj5 => ∀ (S4 : ST), j5 S4 = some x1 → fj5 (mkM K R S4) = some (Sum.map (fun (s1 : Int32 × ST) => (s1.1, mkM K R s1.2)) (fun (e1 : ST) => mkM K R e1) x1)) h ?_ ?_
      · intro S4 h
        exact eLeaf (θ := (Sum.map (fun (s1 : Int32 × ST) => (s1.1, mkM K R s1.2)) (fun (e1 : ST) => mkM K R e1))) h rfl
      · intro j5 fj5 Jj5 h
        refine eIF h (fun c6 h => ?_) (fun c6 h => ?_)
        · refine eGR (kd_95 hL) (Nat.le_of_ble_eq_true rfl) (rd_95_68 hL) ?_
          refine eRI (kd_144 hL) h (fun v7 h => ?_)
          refine eWI (kd_144 hL) (Nat.le_of_ble_eq_true rfl) h (fun S8 h => ?_)
          exact Jj5 _ h
        · exact Jj5 _ h
  · intro e1 h
    exact eLeaf (θ := (fun (o : ST) => (mkM K R o))) h rfl
-- OnlyUpwardModel.knowsIt(III)Z
set_option maxRecDepth 100000 in
set_option maxHeartbeats 4000000 in
def E_X12_knowsIt (n : Nat) (S : ST) (a1 : Int32) (a2 : Int32) (a3 : Int32) : Option Int32 :=
  (rd (S.1 144) 250 (((10 : Int32) * a2) + a1)).bind fun v1 => if ((v1 >>> (a3 &&& 31)) &&& (1 : Int32)) = (1 : Int32) then some (1 : Int32) else some (0 : Int32)
set_option maxRecDepth 100000 in
set_option maxHeartbeats 4000000 in
theorem E_X12_knowsIt_ok {n : Nat} (hn : 30000 ≤ n) {K : AK} {R : Nat → Nat → Option Nat} {S : ST} {a1 : Int32} {a2 : Int32} {a3 : Int32} {tz en : Nat} (hL : Lay K R tz en) {o : Int32} (h : E_X12_knowsIt n S a1 a2 a3 = some o) : F_X12_knowsIt n (mkM K R S) 95 a1 a2 a3 = some o := by
  unfold E_X12_knowsIt at h
  unfold F_X12_knowsIt
  refine eGR (kd_95 hL) (Nat.le_of_ble_eq_true rfl) (rd_95_68 hL) ?_
  refine eRI (kd_144 hL) h (fun v1 h => ?_)
  refine eIF h (fun c2 h => ?_) (fun c2 h => ?_)
  · exact eLeaf (θ := (fun (o : Int32) => o)) h rfl
  · exact eLeaf (θ := (fun (o : Int32) => o)) h rfl
-- OnlyUpwardModel.whyNot(I)I
set_option maxRecDepth 100000 in
set_option maxHeartbeats 4000000 in
def E_X12_whyNot (n : Nat) (S : ST) (a1 : Int32) : Option (Int32 × ST) :=
  (rd (S.1 140) 30 a1).bind fun v1 => (rd (S.1 141) 30 a1).bind fun v2 => (E_X12_isDead n S v2).bind fun v3 => if v3 = 0 then (iter (fun (s5 : Int32) => if a1 ≤ s5 then some (.inr (.inl ())) else (rd (S.1 140) 30 s5).bind fun v7 => jn (some (.inl (s5 + (1 : Int32)))) fun j8 => if v7 = v1 then (rd (S.1 141) 30 s5).bind fun v10 => if v10 = v2 then some (.inr (.inr ((1 : Int32), S))) else j8 else j8) n (0 : Int32)).bind fun (z5 : (Unit) ⊕ (Int32 × ST)) => Sum.elim (fun (e5 : Unit) => (E_X12_placeOf n S v2 v1).bind fun v12 => (rd (S.1 139) 30 a1).bind fun v13 => jn (fun (u14 : Int32) => if v12 < 0 then some ((2 : Int32), S) else jn ((rd (S.1 139) 30 a1).bind fun v16 => jn (if u14 = 0 then some ((0 : Int32), S) else (rd (S.1 142) 30 a1).bind fun v18 => (rd (S.1 139) 30 a1).bind fun v19 => jn (fun (u20 : Int32) => (E_X12_mayBy n S v2 v18 v1 u20 (0 : Int32)).bind fun v21 => if v21.1 = 0 then some ((4 : Int32), v21.2) else some ((0 : Int32), v21.2)) fun j23 => if v19 = (3 : Int32) then j23 (1 : Int32) else j23 (0 : Int32)) fun j25 => if v16 = (3 : Int32) then j25 else (rd (S.1 143) 30 a1).bind fun v27 => (E_X12_knowsIt n S v2 v1 v27).bind fun v28 => if v28 = 0 then some ((3 : Int32), S) else j25) fun j30 => if u14 = 0 then j30 else (rd (S.1 142) 30 a1).bind fun v32 => (E_X12_placeOf n S v32 v1).bind fun v33 => if v33 = v12 then j30 else some ((2 : Int32), S)) fun j35 => jn (j35 (1 : Int32)) fun j36 => if v13 = 0 then j36 else (rd (S.1 139) 30 a1).bind fun v38 => if v38 = (3 : Int32) then j36 else j35 (0 : Int32)) (fun (v : (Int32 × ST)) => some v) z5 else some ((5 : Int32), S)
set_option maxRecDepth 100000 in
set_option maxHeartbeats 4000000 in
theorem E_X12_whyNot_ok {n : Nat} (hn : 30000 ≤ n) {K : AK} {R : Nat → Nat → Option Nat} {S : ST} {a1 : Int32} {tz en : Nat} (hL : Lay K R tz en) {o : (Int32 × ST)} (h : E_X12_whyNot n S a1 = some o) : F_X12_whyNot n (mkM K R S) 95 a1 = some (o.1, mkM K R o.2) := by
  unfold E_X12_whyNot at h
  unfold F_X12_whyNot
  refine eGR (kd_95 hL) (Nat.le_of_ble_eq_true rfl) (rd_95_64 hL) ?_
  refine eRI (kd_140 hL) h (fun v1 h => ?_)
  refine eGR (kd_95 hL) (Nat.le_of_ble_eq_true rfl) (rd_95_65 hL) ?_
  refine eRI (kd_141 hL) h (fun v2 h => ?_)
  refine eCV (kd_95 hL) (Nat.le_of_ble_eq_true rfl) (fun _ hv => E_X12_isDead_ok hn hL hv) h (fun v3 h => ?_)
  refine eIF h (fun c4 h => ?_) (fun c4 h => ?_)
  · refine eLP (fun (s5 : Int32) => s5) (Sum.map (fun (e5 : Unit) => e5) (fun (v : (Int32 × ST)) => (v.1, mkM K R v.2))) h rfl ?_ ?_
    · intro s5 x5 h
      refine eIF h (fun c6 h => ?_) (fun c6 h => ?_)
      · exact eLeaf (θ := (Sum.map (fun (s5 : Int32) => s5) (Sum.map (fun (e5 : Unit) => e5) (fun (v : (Int32 × ST)) => (v.1, mkM K R v.2))))) h rfl
      · refine eGR (kd_95 hL) (Nat.le_of_ble_eq_true rfl) (rd_95_64 hL) ?_
        refine eRI (kd_140 hL) h (fun v7 h => ?_)
        refine eJN (fun j8 fj8 => j8 = some x5 → fj8 = some (Sum.map (fun (s5 : Int32) => s5) (Sum.map (fun (e5 : Unit) => e5) (fun (v : (Int32 × ST)) => (v.1, mkM K R v.2))) x5)) h ?_ ?_
        · intro h
          exact eLeaf (θ := (Sum.map (fun (s5 : Int32) => s5) (Sum.map (fun (e5 : Unit) => e5) (fun (v : (Int32 × ST)) => (v.1, mkM K R v.2))))) h rfl
        · intro j8 fj8 Jj8 h
          refine eIF h (fun c9 h => ?_) (fun c9 h => ?_)
          · refine eGR (kd_95 hL) (Nat.le_of_ble_eq_true rfl) (rd_95_65 hL) ?_
            refine eRI (kd_141 hL) h (fun v10 h => ?_)
            refine eIF h (fun c11 h => ?_) (fun c11 h => ?_)
            · exact eLeaf (θ := (Sum.map (fun (s5 : Int32) => s5) (Sum.map (fun (e5 : Unit) => e5) (fun (v : (Int32 × ST)) => (v.1, mkM K R v.2))))) h rfl
            · exact Jj8 h
          · exact Jj8 h
    · intro z5 h
      rcases z5 with e5 | v
      · have h := sum_inl h
        refine eCV (kd_95 hL) (Nat.le_of_ble_eq_true rfl) (fun _ hv => E_X12_placeOf_ok hn hL hv) h (fun v12 h => ?_)
        refine eGR (kd_95 hL) (Nat.le_of_ble_eq_true rfl) (rd_95_63 hL) ?_
        refine eRI (kd_139 hL) h (fun v13 h => ?_)
        refine eJN (fun j35 fj35 => ∀ (u14 : Int32), j35 u14 = some o → fj35 u14 = some (o.1, mkM K R o.2)) h ?_ ?_
        · intro u14 h
          refine eIF h (fun c15 h => ?_) (fun c15 h => ?_)
          · exact eLeaf (θ := (fun (o : (Int32 × ST)) => (o.1, mkM K R o.2))) h rfl
          · refine eJN (fun j30 fj30 => j30 = some o → fj30 = some (o.1, mkM K R o.2)) h ?_ ?_
            · intro h
              refine eGR (kd_95 hL) (Nat.le_of_ble_eq_true rfl) (rd_95_63 hL) ?_
              refine eRI (kd_139 hL) h (fun v16 h => ?_)
              refine eJN (fun j25 fj25 => j25 = some o → fj25 = some (o.1, mkM K R o.2)) h ?_ ?_
              · intro h
                refine eIF h (fun c17 h => ?_) (fun c17 h => ?_)
                · exact eLeaf (θ := (fun (o : (Int32 × ST)) => (o.1, mkM K R o.2))) h rfl
                · refine eGR (kd_95 hL) (Nat.le_of_ble_eq_true rfl) (rd_95_66 hL) ?_
                  refine eRI (kd_142 hL) h (fun v18 h => ?_)
                  refine eGR (kd_95 hL) (Nat.le_of_ble_eq_true rfl) (rd_95_63 hL) ?_
                  refine eRI (kd_139 hL) h (fun v19 h => ?_)
                  refine eJN (fun j23 fj23 => ∀ (u20 : Int32), j23 u20 = some o → fj23 u20 = some (o.1, mkM K R o.2)) h ?_ ?_
                  · intro u20 h
                    refine eCwiV (kd_95 hL) (Nat.le_of_ble_eq_true rfl) (fun _ hv => E_X12_mayBy_ok hn hL hv) h (fun v21 h => ?_)
                    refine eIF h (fun c22 h => ?_) (fun c22 h => ?_)
                    · exact eLeaf (θ := (fun (o : (Int32 × ST)) => (o.1, mkM K R o.2))) h rfl
                    · exact eLeaf (θ := (fun (o : (Int32 × ST)) => (o.1, mkM K R o.2))) h rfl
                  · intro j23 fj23 Jj23 h
                    refine eIF h (fun c24 h => ?_) (fun c24 h => ?_)
                    · exact Jj23 _ h
                    · exact Jj23 _ h
              · intro j25 fj25 Jj25 h
                refine eIF h (fun c26 h => ?_) (fun c26 h => ?_)
                · exact Jj25 h
                · refine eGR (kd_95 hL) (Nat.le_of_ble_eq_true rfl) (rd_95_67 hL) ?_
                  refine eRI (kd_143 hL) h (fun v27 h => ?_)
                  refine eCV (kd_95 hL) (Nat.le_of_ble_eq_true rfl) (fun _ hv => E_X12_knowsIt_ok hn hL hv) h (fun v28 h => ?_)
                  refine eIF h (fun c29 h => ?_) (fun c29 h => ?_)
                  · exact eLeaf (θ := (fun (o : (Int32 × ST)) => (o.1, mkM K R o.2))) h rfl
                  · exact Jj25 h
            · intro j30 fj30 Jj30 h
              refine eIF h (fun c31 h => ?_) (fun c31 h => ?_)
              · exact Jj30 h
              · refine eGR (kd_95 hL) (Nat.le_of_ble_eq_true rfl) (rd_95_66 hL) ?_
                refine eRI (kd_142 hL) h (fun v32 h => ?_)
                refine eCV (kd_95 hL) (Nat.le_of_ble_eq_true rfl) (fun _ hv => E_X12_placeOf_ok hn hL hv) h (fun v33 h => ?_)
                refine eIF h (fun c34 h => ?_) (fun c34 h => ?_)
                · exact Jj30 h
                · exact eLeaf (θ := (fun (o : (Int32 × ST)) => (o.1, mkM K R o.2))) h rfl
        · intro j35 fj35 Jj35 h
          refine eJN (fun j36 fj36 => j36 = some o → fj36 = some (o.1, mkM K R o.2)) h ?_ ?_
          · intro h
            exact Jj35 _ h
          · intro j36 fj36 Jj36 h
            refine eIF h (fun c37 h => ?_) (fun c37 h => ?_)
            · exact Jj36 h
            · refine eGR (kd_95 hL) (Nat.le_of_ble_eq_true rfl) (rd_95_63 hL) ?_
              refine eRI (kd_139 hL) h (fun v38 h => ?_)
              refine eIF h (fun c39 h => ?_) (fun c39 h => ?_)
              · exact Jj36 h
              · exact Jj35 _ h
      · have h := sum_inr h
        exact eLeaf (θ := (fun (o : (Int32 × ST)) => (o.1, mkM K R o.2))) h rfl
  · exact eLeaf (θ := (fun (o : (Int32 × ST)) => (o.1, mkM K R o.2))) h rfl
-- OnlyUpwardModel.does(I)V
set_option maxRecDepth 100000 in
set_option maxHeartbeats 4000000 in
def E_X12_does (n : Nat) (S : ST) (a1 : Int32) : Option ST :=
  (rd (S.1 140) 30 a1).bind fun v1 => (rd (S.1 141) 30 a1).bind fun v2 => (rd (S.1 143) 30 a1).bind fun v3 => (E_X12_placeOf n S v2 v1).bind fun v4 => (rd (S.1 139) 30 a1).bind fun v5 => if v5 = (1 : Int32) then (E_X12_crowdAt n S v4 v1).bind fun v7 => (E_X12_learn n S v7 v1 ((1 : Int32) <<< (v3 &&& 31))).bind fun S9 => some S9 else (rd (S.1 139) 30 a1).bind fun v10 => if v10 = (2 : Int32) then (rd (S.1 147) 6 v4).bind fun v12 => (wr S 147 6 v4 (v12 ||| ((1 : Int32) <<< (((6 : Int32) + v3) &&& 31)))).bind fun S13 => some S13 else (rd (S.1 142) 30 a1).bind fun v14 => (rd (S.1 139) 30 a1).bind fun v15 => jn (fun (u16 : Int32) (S17 : ST) => (E_X12_earshotOf n S17 v4 v1).bind fun v18 => jn (fun (S19 : ST) => (rd (S19.1 139) 30 a1).bind fun v20 => if v20 = 0 then some S19 else (E_X12_knowsIt n S19 v2 v1 v3).bind fun v22 => if v22 = 0 then (iter (fun (s24 : Int32 × ST) => (E_X12_has n s24.2 (1 : Int32)).bind fun v25 => if v25 ≤ s24.1 then some (.inr s24.2) else jn (fun (S27 : ST) => some (.inl ((s24.1 + (1 : Int32)), S27))) fun j28 => if s24.1 = v2 then j28 s24.2 else if ((v18 >>> (s24.1 &&& 31)) &&& (1 : Int32)) = (1 : Int32) then (rd (s24.2.1 146) 600 ((((60 : Int32) * s24.1) + ((6 : Int32) * v2)) + v3)).bind fun v31 => if v31 ≤ (v1 + (1 : Int32)) then j28 s24.2 else (wr s24.2 146 600 ((((60 : Int32) * s24.1) + ((6 : Int32) * v2)) + v3) (v1 + (1 : Int32))).bind fun S33 => j28 S33 else j28 s24.2) n ((0 : Int32), S19)).bind fun (e24 : ST) => some e24 else some S19) fun j34 => if u16 = 0 then j34 S17 else (E_X12_learn n S17 v18 v1 ((1 : Int32) <<< (v3 &&& 31))).bind fun S37 => j34 S37) fun j38 => jn (fun (S39 : ST) => j38 (1 : Int32) S39) fun j40 => if v15 = 0 then j40 S else (E_X12_knowsIt n S v14 v1 v3).bind fun v42 => jn (fun (S43 : ST) => j38 (0 : Int32) S43) fun j44 => if v42 = 0 then j44 S else (E_X12_mayBy n S v14 v2 v1 (0 : Int32) (0 : Int32)).bind fun v46 => if v46.1 = 0 then j44 v46.2 else j40 v46.2
set_option maxRecDepth 100000 in
set_option maxHeartbeats 4000000 in
theorem E_X12_does_ok {n : Nat} (hn : 30000 ≤ n) {K : AK} {R : Nat → Nat → Option Nat} {S : ST} {a1 : Int32} {tz en : Nat} (hL : Lay K R tz en) {o : ST} (h : E_X12_does n S a1 = some o) : F_X12_does n (mkM K R S) 95 a1 = some (mkM K R o) := by
  unfold E_X12_does at h
  unfold F_X12_does
  refine eGR (kd_95 hL) (Nat.le_of_ble_eq_true rfl) (rd_95_64 hL) ?_
  refine eRI (kd_140 hL) h (fun v1 h => ?_)
  refine eGR (kd_95 hL) (Nat.le_of_ble_eq_true rfl) (rd_95_65 hL) ?_
  refine eRI (kd_141 hL) h (fun v2 h => ?_)
  refine eGR (kd_95 hL) (Nat.le_of_ble_eq_true rfl) (rd_95_67 hL) ?_
  refine eRI (kd_143 hL) h (fun v3 h => ?_)
  refine eCV (kd_95 hL) (Nat.le_of_ble_eq_true rfl) (fun _ hv => E_X12_placeOf_ok hn hL hv) h (fun v4 h => ?_)
  refine eGR (kd_95 hL) (Nat.le_of_ble_eq_true rfl) (rd_95_63 hL) ?_
  refine eRI (kd_139 hL) h (fun v5 h => ?_)
  refine eIF h (fun c6 h => ?_) (fun c6 h => ?_)
  · refine eCV (kd_95 hL) (Nat.le_of_ble_eq_true rfl) (fun _ hv => E_X12_crowdAt_ok hn hL hv) h (fun v7 h => ?_)
    refine eCwV (kd_95 hL) (Nat.le_of_ble_eq_true rfl) (fun _ hv => E_X12_learn_ok hn hL hv) h (fun S9 h => ?_)
    exact eLeaf (θ := (fun (o : ST) => (mkM K R o))) h rfl
  · refine eGR (kd_95 hL) (Nat.le_of_ble_eq_true rfl) (rd_95_63 hL) ?_
    refine eRI (kd_139 hL) h (fun v10 h => ?_)
    refine eIF h (fun c11 h => ?_) (fun c11 h => ?_)
    · refine eGR (kd_95 hL) (Nat.le_of_ble_eq_true rfl) (rd_95_71 hL) ?_
      refine eRI (kd_147 hL) h (fun v12 h => ?_)
      refine eWI (kd_147 hL) (Nat.le_of_ble_eq_true rfl) h (fun S13 h => ?_)
      exact eLeaf (θ := (fun (o : ST) => (mkM K R o))) h rfl
    · refine eGR (kd_95 hL) (Nat.le_of_ble_eq_true rfl) (rd_95_66 hL) ?_
      refine eRI (kd_142 hL) h (fun v14 h => ?_)
      refine eGR (kd_95 hL) (Nat.le_of_ble_eq_true rfl) (rd_95_63 hL) ?_
      refine eRI (kd_139 hL) h (fun v15 h => ?_)
      refine eJN (fun j38 fj38 => ∀ (u16 : Int32) (S17 : ST), j38 u16 S17 = some o → fj38 u16 (mkM K R S17) = some (mkM K R o)) h ?_ ?_
      · intro u16 S17 h
        refine eCV (kd_95 hL) (Nat.le_of_ble_eq_true rfl) (fun _ hv => E_X12_earshotOf_ok hn hL hv) h (fun v18 h => ?_)
        refine eJN (fun j34 fj34 => ∀ (S19 : ST), j34 S19 = some o → fj34 (mkM K R S19) = some (mkM K R o)) h ?_ ?_
        · intro S19 h
          refine eGR (kd_95 hL) (Nat.le_of_ble_eq_true rfl) (rd_95_63 hL) ?_
          refine eRI (kd_139 hL) h (fun v20 h => ?_)
          refine eIF h (fun c21 h => ?_) (fun c21 h => ?_)
          · exact eLeaf (θ := (fun (o : ST) => (mkM K R o))) h rfl
          · refine eCV (kd_95 hL) (Nat.le_of_ble_eq_true rfl) (fun _ hv => E_X12_knowsIt_ok hn hL hv) h (fun v22 h => ?_)
            refine eIF h (fun c23 h => ?_) (fun c23 h => ?_)
            · refine eLP (fun (s24 : Int32 × ST) => (s24.1, mkM K R s24.2)) (fun (e24 : ST) => mkM K R e24) h rfl ?_ ?_
              · intro s24 x24 h
                refine eCV (kd_95 hL) (Nat.le_of_ble_eq_true rfl) (fun _ hv => E_X12_has_ok hn hL hv) h (fun v25 h => ?_)
                refine eIF h (fun c26 h => ?_) (fun c26 h => ?_)
                · exact eLeaf (θ := (Sum.map (fun (s24 : Int32 × ST) => (s24.1, mkM K R s24.2)) (fun (e24 : ST) => mkM K R e24))) h rfl
                · refine eJN (fun j28 fj28 => ∀ (S27 : ST), j28 S27 = some x24 → fj28 (mkM K R S27) = some (Sum.map (fun (s24 : Int32 × ST) => (s24.1, mkM K R s24.2)) (fun (e24 : ST) => mkM K R e24) x24)) h ?_ ?_
                  · intro S27 h
                    exact eLeaf (θ := (Sum.map (fun (s24 : Int32 × ST) => (s24.1, mkM K R s24.2)) (fun (e24 : ST) => mkM K R e24))) h rfl
                  · intro j28 fj28 Jj28 h
                    refine eIF h (fun c29 h => ?_) (fun c29 h => ?_)
                    · exact Jj28 _ h
                    · refine eIF h (fun c30 h => ?_) (fun c30 h => ?_)
                      · refine eGR (kd_95 hL) (Nat.le_of_ble_eq_true rfl) (rd_95_70 hL) ?_
                        refine eRI (kd_146 hL) h (fun v31 h => ?_)
                        refine eIF h (fun c32 h => ?_) (fun c32 h => ?_)
                        · exact Jj28 _ h
                        · refine eGR (kd_95 hL) (Nat.le_of_ble_eq_true rfl) (rd_95_70 hL) ?_
                          refine eWI (kd_146 hL) (Nat.le_of_ble_eq_true rfl) h (fun S33 h => ?_)
                          exact Jj28 _ h
                      · exact Jj28 _ h
              · intro e24 h
                exact eLeaf (θ := (fun (o : ST) => (mkM K R o))) h rfl
            · exact eLeaf (θ := (fun (o : ST) => (mkM K R o))) h rfl
        · intro j34 fj34 Jj34 h
          refine eIF h (fun c35 h => ?_) (fun c35 h => ?_)
          · exact Jj34 _ h
          · refine eCwV (kd_95 hL) (Nat.le_of_ble_eq_true rfl) (fun _ hv => E_X12_learn_ok hn hL hv) h (fun S37 h => ?_)
            exact Jj34 _ h
      · intro j38 fj38 Jj38 h
        refine eJN (fun j40 fj40 => ∀ (S39 : ST), j40 S39 = some o → fj40 (mkM K R S39) = some (mkM K R o)) h ?_ ?_
        · intro S39 h
          exact Jj38 _ _ h
        · intro j40 fj40 Jj40 h
          refine eIF h (fun c41 h => ?_) (fun c41 h => ?_)
          · exact Jj40 _ h
          · refine eCV (kd_95 hL) (Nat.le_of_ble_eq_true rfl) (fun _ hv => E_X12_knowsIt_ok hn hL hv) h (fun v42 h => ?_)
            refine eJN (fun j44 fj44 => ∀ (S43 : ST), j44 S43 = some o → fj44 (mkM K R S43) = some (mkM K R o)) h ?_ ?_
            · intro S43 h
              exact Jj38 _ _ h
            · intro j44 fj44 Jj44 h
              refine eIF h (fun c45 h => ?_) (fun c45 h => ?_)
              · exact Jj44 _ h
              · refine eCwiV (kd_95 hL) (Nat.le_of_ble_eq_true rfl) (fun _ hv => E_X12_mayBy_ok hn hL hv) h (fun v46 h => ?_)
                refine eIF h (fun c47 h => ?_) (fun c47 h => ?_)
                · exact Jj44 _ h
                · exact Jj40 _ h
-- OnlyUpwardModel.goes()V
set_option maxRecDepth 100000 in
set_option maxHeartbeats 4000000 in
def E_X12_goes (n : Nat) (S : ST) : Option ST :=
  (E_X12_startsKnowing n S ).bind fun S2 => lets (upI S2 95 61 (0 : Int32)) fun (S3 : ST) => (iter (fun (s4 : Int32 × ST) => if (600 : Int32) ≤ s4.1 then some (.inr s4.2) else (wr s4.2 146 600 s4.1 (99 : Int32)).bind fun S6 => some (.inl ((s4.1 + (1 : Int32)), S6))) n ((0 : Int32), S3)).bind fun (e4 : ST) => (iter (fun (s7 : Int32 × ST) => if (6 : Int32) ≤ s7.1 then some (.inr s7.2) else (wr s7.2 147 6 s7.1 (0 : Int32)).bind fun S9 => some (.inl ((s7.1 + (1 : Int32)), S9))) n ((0 : Int32), e4)).bind fun (e7 : ST) => (iter (fun (s10 : Int32 × ST) => if (24 : Int32) ≤ s10.1 then some (.inr s10.2) else (iter (fun (s12 : Int32 × ST) => (E_X12_has n s12.2 (1 : Int32)).bind fun v13 => if v13 ≤ s12.1 then some (.inr s12.2) else jn (fun (S15 : ST) => (rd (S15.1 144) 250 ((((10 : Int32) * s10.1) + (10 : Int32)) + s12.1)).bind fun v16 => (rd (S15.1 144) 250 (((10 : Int32) * s10.1) + s12.1)).bind fun v17 => (wr S15 144 250 ((((10 : Int32) * s10.1) + (10 : Int32)) + s12.1) (v16 ||| v17)).bind fun S18 => some (.inl ((s12.1 + (1 : Int32)), S18))) fun j19 => if (s12.2.1 95 73) = (-1 : Int32) then j19 s12.2 else if s10.1 ≤ 0 then j19 s12.2 else (E_X12_isDead n s12.2 s12.1).bind fun v22 => if v22 = 0 then (E_X12_lot n s12.2 (s12.2.1 95 72) (((100 : Int32) * s10.1) + s12.1) (100 : Int32)).bind fun v24 => if (s12.2.1 95 73) ≤ v24 then j19 s12.2 else lets (upI s12.2 95 61 ((s12.2.1 95 61) ||| ((1 : Int32) <<< (s12.1 &&& 31)))) fun (S26 : ST) => j19 S26 else j19 s12.2) n ((0 : Int32), s10.2)).bind fun (e12 : ST) => (iter (fun (s27 : Int32 × ST) => (E_X12_has n s27.2 (0 : Int32)).bind fun v28 => if v28 ≤ s27.1 then some (.inr s27.2) else (E_X12_crowdAt n s27.2 s27.1 s10.1).bind fun v30 => (rd (s27.2.1 147) 6 s27.1).bind fun v31 => (E_X12_learn n s27.2 v30 s10.1 (v31 &&& (63 : Int32))).bind fun S33 => some (.inl ((s27.1 + (1 : Int32)), S33))) n ((0 : Int32), e12)).bind fun (e27 : ST) => (iter (fun (s34 : Int32 × ST) => if (s34.2.1 95 62) ≤ s34.1 then some (.inr s34.2) else (rd (s34.2.1 140) 30 s34.1).bind fun v36 => jn (fun (S37 : ST) => some (.inl ((s34.1 + (1 : Int32)), S37))) fun j38 => if v36 = s10.1 then (E_X12_whyNot n s34.2 s34.1).bind fun v40 => (wr v40.2 145 30 s34.1 v40.1).bind fun S41 => (rd (S41.1 145) 30 s34.1).bind fun v42 => if v42 = 0 then (E_X12_does n S41 s34.1).bind fun S45 => j38 S45 else j38 S41 else j38 s34.2) n ((0 : Int32), e27)).bind fun (e34 : ST) => (iter (fun (s46 : Int32 × ST) => if (6 : Int32) ≤ s46.1 then some (.inr s46.2) else (rd (s46.2.1 147) 6 s46.1).bind fun v48 => (rd (s46.2.1 147) 6 s46.1).bind fun v49 => (wr s46.2 147 6 s46.1 (v48 ||| (v49 >>> ((6 : Int32) &&& 31)))).bind fun S50 => some (.inl ((s46.1 + (1 : Int32)), S50))) n ((0 : Int32), e34)).bind fun (e46 : ST) => some (.inl ((s10.1 + (1 : Int32)), e46))) n ((0 : Int32), e7)).bind fun (e10 : ST) => some e10
set_option maxRecDepth 100000 in
set_option maxHeartbeats 4000000 in
theorem E_X12_goes_ok {n : Nat} (hn : 30000 ≤ n) {K : AK} {R : Nat → Nat → Option Nat} {S : ST} {tz en : Nat} (hL : Lay K R tz en) {o : ST} (h : E_X12_goes n S  = some o) : F_X12_goes n (mkM K R S) 95 = some (mkM K R o) := by
  unfold E_X12_goes at h
  unfold F_X12_goes
  refine eCwV (kd_95 hL) (Nat.le_of_ble_eq_true rfl) (fun _ hv => E_X12_startsKnowing_ok hn hL hv) h (fun S2 h => ?_)
  refine ePI (kd_95 hL) (Nat.le_of_ble_eq_true rfl) h (fun S3 h => ?_)
  refine eLP (fun (s4 : Int32 × ST) => (s4.1, mkM K R s4.2)) (fun (e4 : ST) => mkM K R e4) h rfl ?_ ?_
  · intro s4 x4 h
    refine eIF h (fun c5 h => ?_) (fun c5 h => ?_)
    · exact eLeaf (θ := (Sum.map (fun (s4 : Int32 × ST) => (s4.1, mkM K R s4.2)) (fun (e4 : ST) => mkM K R e4))) h rfl
    · refine eGR (kd_95 hL) (Nat.le_of_ble_eq_true rfl) (rd_95_70 hL) ?_
      refine eWI (kd_146 hL) (Nat.le_of_ble_eq_true rfl) h (fun S6 h => ?_)
      exact eLeaf (θ := (Sum.map (fun (s4 : Int32 × ST) => (s4.1, mkM K R s4.2)) (fun (e4 : ST) => mkM K R e4))) h rfl
  · intro e4 h
    refine eLP (fun (s7 : Int32 × ST) => (s7.1, mkM K R s7.2)) (fun (e7 : ST) => mkM K R e7) h rfl ?_ ?_
    · intro s7 x7 h
      refine eIF h (fun c8 h => ?_) (fun c8 h => ?_)
      · exact eLeaf (θ := (Sum.map (fun (s7 : Int32 × ST) => (s7.1, mkM K R s7.2)) (fun (e7 : ST) => mkM K R e7))) h rfl
      · refine eGR (kd_95 hL) (Nat.le_of_ble_eq_true rfl) (rd_95_71 hL) ?_
        refine eWI (kd_147 hL) (Nat.le_of_ble_eq_true rfl) h (fun S9 h => ?_)
        exact eLeaf (θ := (Sum.map (fun (s7 : Int32 × ST) => (s7.1, mkM K R s7.2)) (fun (e7 : ST) => mkM K R e7))) h rfl
    · intro e7 h
      refine eLP (fun (s10 : Int32 × ST) => (s10.1, mkM K R s10.2)) (fun (e10 : ST) => mkM K R e10) h rfl ?_ ?_
      · intro s10 x10 h
        refine eIF h (fun c11 h => ?_) (fun c11 h => ?_)
        · exact eLeaf (θ := (Sum.map (fun (s10 : Int32 × ST) => (s10.1, mkM K R s10.2)) (fun (e10 : ST) => mkM K R e10))) h rfl
        · refine eLP (fun (s12 : Int32 × ST) => (s12.1, mkM K R s12.2)) (fun (e12 : ST) => mkM K R e12) h rfl ?_ ?_
          · intro s12 x12 h
            refine eCV (kd_95 hL) (Nat.le_of_ble_eq_true rfl) (fun _ hv => E_X12_has_ok hn hL hv) h (fun v13 h => ?_)
            refine eIF h (fun c14 h => ?_) (fun c14 h => ?_)
            · exact eLeaf (θ := (Sum.map (fun (s12 : Int32 × ST) => (s12.1, mkM K R s12.2)) (fun (e12 : ST) => mkM K R e12))) h rfl
            · refine eGI (kd_95 hL) (Nat.le_of_ble_eq_true rfl) ?_
              refine eJN (fun j19 fj19 => ∀ (S15 : ST), j19 S15 = some x12 → fj19 (mkM K R S15) = some (Sum.map (fun (s12 : Int32 × ST) => (s12.1, mkM K R s12.2)) (fun (e12 : ST) => mkM K R e12) x12)) h ?_ ?_
              · intro S15 h
                refine eGR (kd_95 hL) (Nat.le_of_ble_eq_true rfl) (rd_95_68 hL) ?_
                refine eRI (kd_144 hL) h (fun v16 h => ?_)
                refine eGR (kd_95 hL) (Nat.le_of_ble_eq_true rfl) (rd_95_68 hL) ?_
                refine eRI (kd_144 hL) h (fun v17 h => ?_)
                refine eWI (kd_144 hL) (Nat.le_of_ble_eq_true rfl) h (fun S18 h => ?_)
                exact eLeaf (θ := (Sum.map (fun (s12 : Int32 × ST) => (s12.1, mkM K R s12.2)) (fun (e12 : ST) => mkM K R e12))) h rfl
              · intro j19 fj19 Jj19 h
                refine eIF h (fun c20 h => ?_) (fun c20 h => ?_)
                · exact Jj19 _ h
                · refine eIF h (fun c21 h => ?_) (fun c21 h => ?_)
                  · exact Jj19 _ h
                  · refine eCV (kd_95 hL) (Nat.le_of_ble_eq_true rfl) (fun _ hv => E_X12_isDead_ok hn hL hv) h (fun v22 h => ?_)
                    refine eIF h (fun c23 h => ?_) (fun c23 h => ?_)
                    · refine eGI (kd_95 hL) (Nat.le_of_ble_eq_true rfl) ?_
                      refine eCS (fun _ hv => E_X12_lot_ok hn hL hv) h (fun v24 h => ?_)
                      refine eGI (kd_95 hL) (Nat.le_of_ble_eq_true rfl) ?_
                      refine eIF h (fun c25 h => ?_) (fun c25 h => ?_)
                      · exact Jj19 _ h
                      · refine eGI (kd_95 hL) (Nat.le_of_ble_eq_true rfl) ?_
                        refine ePI (kd_95 hL) (Nat.le_of_ble_eq_true rfl) h (fun S26 h => ?_)
                        exact Jj19 _ h
                    · exact Jj19 _ h
          · intro e12 h
            refine eLP (fun (s27 : Int32 × ST) => (s27.1, mkM K R s27.2)) (fun (e27 : ST) => mkM K R e27) h rfl ?_ ?_
            · intro s27 x27 h
              refine eCV (kd_95 hL) (Nat.le_of_ble_eq_true rfl) (fun _ hv => E_X12_has_ok hn hL hv) h (fun v28 h => ?_)
              refine eIF h (fun c29 h => ?_) (fun c29 h => ?_)
              · exact eLeaf (θ := (Sum.map (fun (s27 : Int32 × ST) => (s27.1, mkM K R s27.2)) (fun (e27 : ST) => mkM K R e27))) h rfl
              · refine eCV (kd_95 hL) (Nat.le_of_ble_eq_true rfl) (fun _ hv => E_X12_crowdAt_ok hn hL hv) h (fun v30 h => ?_)
                refine eGR (kd_95 hL) (Nat.le_of_ble_eq_true rfl) (rd_95_71 hL) ?_
                refine eRI (kd_147 hL) h (fun v31 h => ?_)
                refine eCwV (kd_95 hL) (Nat.le_of_ble_eq_true rfl) (fun _ hv => E_X12_learn_ok hn hL hv) h (fun S33 h => ?_)
                exact eLeaf (θ := (Sum.map (fun (s27 : Int32 × ST) => (s27.1, mkM K R s27.2)) (fun (e27 : ST) => mkM K R e27))) h rfl
            · intro e27 h
              refine eLP (fun (s34 : Int32 × ST) => (s34.1, mkM K R s34.2)) (fun (e34 : ST) => mkM K R e34) h rfl ?_ ?_
              · intro s34 x34 h
                refine eGI (kd_95 hL) (Nat.le_of_ble_eq_true rfl) ?_
                refine eIF h (fun c35 h => ?_) (fun c35 h => ?_)
                · exact eLeaf (θ := (Sum.map (fun (s34 : Int32 × ST) => (s34.1, mkM K R s34.2)) (fun (e34 : ST) => mkM K R e34))) h rfl
                · refine eGR (kd_95 hL) (Nat.le_of_ble_eq_true rfl) (rd_95_64 hL) ?_
                  refine eRI (kd_140 hL) h (fun v36 h => ?_)
                  refine eJN (fun j38 fj38 => ∀ (S37 : ST), j38 S37 = some x34 → fj38 (mkM K R S37) = some (Sum.map (fun (s34 : Int32 × ST) => (s34.1, mkM K R s34.2)) (fun (e34 : ST) => mkM K R e34) x34)) h ?_ ?_
                  · intro S37 h
                    exact eLeaf (θ := (Sum.map (fun (s34 : Int32 × ST) => (s34.1, mkM K R s34.2)) (fun (e34 : ST) => mkM K R e34))) h rfl
                  · intro j38 fj38 Jj38 h
                    refine eIF h (fun c39 h => ?_) (fun c39 h => ?_)
                    · refine eGR (kd_95 hL) (Nat.le_of_ble_eq_true rfl) (rd_95_69 hL) ?_
                      refine eCwiV (kd_95 hL) (Nat.le_of_ble_eq_true rfl) (fun _ hv => E_X12_whyNot_ok hn hL hv) h (fun v40 h => ?_)
                      refine eWI (kd_145 hL) (Nat.le_of_ble_eq_true rfl) h (fun S41 h => ?_)
                      refine eGR (kd_95 hL) (Nat.le_of_ble_eq_true rfl) (rd_95_69 hL) ?_
                      refine eRI (kd_145 hL) h (fun v42 h => ?_)
                      refine eIF h (fun c43 h => ?_) (fun c43 h => ?_)
                      · refine eCwV (kd_95 hL) (Nat.le_of_ble_eq_true rfl) (fun _ hv => E_X12_does_ok hn hL hv) h (fun S45 h => ?_)
                        exact Jj38 _ h
                      · exact Jj38 _ h
                    · exact Jj38 _ h
              · intro e34 h
                refine eLP (fun (s46 : Int32 × ST) => (s46.1, mkM K R s46.2)) (fun (e46 : ST) => mkM K R e46) h rfl ?_ ?_
                · intro s46 x46 h
                  refine eIF h (fun c47 h => ?_) (fun c47 h => ?_)
                  · exact eLeaf (θ := (Sum.map (fun (s46 : Int32 × ST) => (s46.1, mkM K R s46.2)) (fun (e46 : ST) => mkM K R e46))) h rfl
                  · refine eGR (kd_95 hL) (Nat.le_of_ble_eq_true rfl) (rd_95_71 hL) ?_
                    refine eRI (kd_147 hL) h (fun v48 h => ?_)
                    refine eGR (kd_95 hL) (Nat.le_of_ble_eq_true rfl) (rd_95_71 hL) ?_
                    refine eRI (kd_147 hL) h (fun v49 h => ?_)
                    refine eWI (kd_147 hL) (Nat.le_of_ble_eq_true rfl) h (fun S50 h => ?_)
                    exact eLeaf (θ := (Sum.map (fun (s46 : Int32 × ST) => (s46.1, mkM K R s46.2)) (fun (e46 : ST) => mkM K R e46))) h rfl
                · intro e46 h
                  exact eLeaf (θ := (Sum.map (fun (s10 : Int32 × ST) => (s10.1, mkM K R s10.2)) (fun (e10 : ST) => mkM K R e10))) h rfl
      · intro e10 h
        exact eLeaf (θ := (fun (o : ST) => (mkM K R o))) h rfl
-- OnlyUpwardModel.goesAsTold()V
set_option maxRecDepth 100000 in
set_option maxHeartbeats 4000000 in
def E_X12_goesAsTold (n : Nat) (S : ST) : Option ST :=
  lets (upI S 95 73 (-1 : Int32)) fun (S1 : ST) => (E_X12_goes n S1 ).bind fun S3 => some S3
set_option maxRecDepth 100000 in
set_option maxHeartbeats 4000000 in
theorem E_X12_goesAsTold_ok {n : Nat} (hn : 30000 ≤ n) {K : AK} {R : Nat → Nat → Option Nat} {S : ST} {tz en : Nat} (hL : Lay K R tz en) {o : ST} (h : E_X12_goesAsTold n S  = some o) : F_X12_goesAsTold n (mkM K R S) 95 = some (mkM K R o) := by
  unfold E_X12_goesAsTold at h
  unfold F_X12_goesAsTold
  refine ePI (kd_95 hL) (Nat.le_of_ble_eq_true rfl) h (fun S1 h => ?_)
  refine eCwV (kd_95 hL) (Nat.le_of_ble_eq_true rfl) (fun _ hv => E_X12_goes_ok hn hL hv) h (fun S3 h => ?_)
  exact eLeaf (θ := (fun (o : ST) => (mkM K R o))) h rfl
