-- OnlyUpwardModel.expression()V
set_option maxRecDepth 100000 in
set_option maxHeartbeats 4000000 in
def E_X12_expression (n : Nat) (S : ST) : Option ST :=
  lets (upI S 95 57 (0 : Int32)) fun (S1 : ST) => (iter (fun (s2 : Int32 × ST) => if s2.1 = 0 then some (.inr (.inl s2.2)) else if (s2.2.1 95 13) = 0 then (iter (fun (s5 : ST) => (E_X12_is n s5 (6 : Int32)).bind fun v6 => if v6 = 0 then some (.inr s5) else jn (fun (S8 : ST) => lets (upI S8 95 12 ((S8.1 95 12) + (1 : Int32))) fun (S9 : ST) => (E_X12_goesOn n S9 ).bind fun S11 => (wr S11 136 64 (S11.1 95 57) (6 : Int32)).bind fun S12 => lets (upI S12 95 57 ((S12.1 95 57) + (1 : Int32))) fun (S13 : ST) => some (.inl S13)) fun j14 => if (s5.1 95 12) = (6 : Int32) then (E_X12_fail n s5 (2 : Int32)).bind fun S17 => j14 S17 else j14 s5) n s2.2).bind fun (e5 : ST) => (E_X12_unit n e5 ).bind fun S19 => if (S19.1 95 13) ≤ 0 then (iter (fun (s21 : ST) => (E_X12_is n s21 (7 : Int32)).bind fun v22 => if v22 = 0 then some (.inr s21) else if (s21.1 95 12) ≤ (S1.1 95 12) then some (.inr s21) else (E_X12_comesOut n s21 (0 : Int32)).bind fun S26 => lets (upI S26 95 57 ((S26.1 95 57) - (1 : Int32))) fun (S27 : ST) => lets (upI S27 95 12 ((S27.1 95 12) - (1 : Int32))) fun (S28 : ST) => (E_X12_goesOn n S28 ).bind fun S30 => some (.inl S30)) n S19).bind fun (e21 : ST) => (E_X12_is n e21 (8 : Int32)).bind fun v31 => jn (fun (u32 : Int32) => if u32 = 0 then jn (fun (S34 : ST) => (E_X12_comesOut n S34 (0 : Int32)).bind fun S36 => some (.inr (.inr S36))) fun j37 => if (e21.1 95 12) ≤ (S1.1 95 12) then j37 e21 else (E_X12_fail n e21 (1 : Int32)).bind fun S40 => j37 S40 else (E_X12_is n e21 (10 : Int32)).bind fun v41 => jn (fun (u42 : Int32) => (E_X12_comesOut n e21 u42).bind fun S44 => (rd (S44.1 98) 403 (S44.1 95 11)).bind fun v45 => (wr S44 136 64 (S44.1 95 57) v45).bind fun S46 => lets (upI S46 95 57 ((S46.1 95 57) + (1 : Int32))) fun (S47 : ST) => (E_X12_goesOn n S47 ).bind fun S49 => some (.inl (u32, S49))) fun j50 => jn (j50 (1 : Int32)) fun j51 => if v41 = 0 then (E_X12_is n e21 (15 : Int32)).bind fun v53 => if v53 = 0 then j50 (0 : Int32) else j51 else j51) fun j55 => jn (j55 (1 : Int32)) fun j56 => if v31 = 0 then (E_X12_is n e21 (9 : Int32)).bind fun v58 => if v58 = 0 then (E_X12_is n e21 (10 : Int32)).bind fun v60 => if v60 = 0 then (E_X12_is n e21 (15 : Int32)).bind fun v62 => if v62 = 0 then j55 (0 : Int32) else j56 else j56 else j56 else j56 else some (.inr (.inr S19)) else some (.inr (.inl s2.2))) n ((1 : Int32), S1)).bind fun (z2 : (ST) ⊕ ST) => Sum.elim (fun (e2 : ST) => some e2) (fun (v : ST) => some v) z2
set_option maxRecDepth 100000 in
set_option maxHeartbeats 4000000 in
theorem E_X12_expression_ok {n : Nat} (hn : 30000 ≤ n) {K : AK} {R : Nat → Nat → Option Nat} {S : ST} {tz en : Nat} (hL : Lay K R tz en) {o : ST} (h : E_X12_expression n S  = some o) : F_X12_expression n (mkM K R S) 95 = some (mkM K R o) := by
  unfold E_X12_expression at h
  unfold F_X12_expression
  refine ePI (kd_95 hL) (Nat.le_of_ble_eq_true rfl) h (fun S1 h => ?_)
  refine eGI (kd_95 hL) (Nat.le_of_ble_eq_true rfl) ?_
  refine eLP (fun (s2 : Int32 × ST) => (s2.1, mkM K R s2.2)) (Sum.map (fun (e2 : ST) => mkM K R e2) (fun (v : ST) => (mkM K R v))) h rfl ?_ ?_
  · intro s2 x2 h
    refine eIF h (fun c3 h => ?_) (fun c3 h => ?_)
    · exact eLeaf (θ := (Sum.map (fun (s2 : Int32 × ST) => (s2.1, mkM K R s2.2)) (Sum.map (fun (e2 : ST) => mkM K R e2) (fun (v : ST) => (mkM K R v))))) h rfl
    · refine eGI (kd_95 hL) (Nat.le_of_ble_eq_true rfl) ?_
      refine eIF h (fun c4 h => ?_) (fun c4 h => ?_)
      · refine eLP (fun (s5 : ST) => mkM K R s5) (fun (e5 : ST) => mkM K R e5) h rfl ?_ ?_
        · intro s5 x5 h
          refine eCV (kd_95 hL) (Nat.le_of_ble_eq_true rfl) (fun _ hv => E_X12_is_ok hn hL hv) h (fun v6 h => ?_)
          refine eIF h (fun c7 h => ?_) (fun c7 h => ?_)
          · exact eLeaf (θ := (Sum.map (fun (s5 : ST) => mkM K R s5) (fun (e5 : ST) => mkM K R e5))) h rfl
          · refine eGI (kd_95 hL) (Nat.le_of_ble_eq_true rfl) ?_
            refine eJN (fun j14 fj14 => ∀ (S8 : ST), j14 S8 = some x5 → fj14 (mkM K R S8) = some (Sum.map (fun (s5 : ST) => mkM K R s5) (fun (e5 : ST) => mkM K R e5) x5)) h ?_ ?_
            · intro S8 h
              refine eGI (kd_95 hL) (Nat.le_of_ble_eq_true rfl) ?_
              refine ePI (kd_95 hL) (Nat.le_of_ble_eq_true rfl) h (fun S9 h => ?_)
              refine eCwV (kd_95 hL) (Nat.le_of_ble_eq_true rfl) (fun _ hv => E_X12_goesOn_ok hn hL hv) h (fun S11 h => ?_)
              refine eGR (kd_95 hL) (Nat.le_of_ble_eq_true rfl) (rd_95_56 hL) ?_
              refine eGI (kd_95 hL) (Nat.le_of_ble_eq_true rfl) ?_
              refine eWI (kd_136 hL) (Nat.le_of_ble_eq_true rfl) h (fun S12 h => ?_)
              refine eGI (kd_95 hL) (Nat.le_of_ble_eq_true rfl) ?_
              refine ePI (kd_95 hL) (Nat.le_of_ble_eq_true rfl) h (fun S13 h => ?_)
              exact eLeaf (θ := (Sum.map (fun (s5 : ST) => mkM K R s5) (fun (e5 : ST) => mkM K R e5))) h rfl
            · intro j14 fj14 Jj14 h
              refine eIF h (fun c15 h => ?_) (fun c15 h => ?_)
              · refine eCwV (kd_95 hL) (Nat.le_of_ble_eq_true rfl) (fun _ hv => E_X12_fail_ok hn hL hv) h (fun S17 h => ?_)
                exact Jj14 _ h
              · exact Jj14 _ h
        · intro e5 h
          refine eCwV (kd_95 hL) (Nat.le_of_ble_eq_true rfl) (fun _ hv => E_X12_unit_ok hn hL hv) h (fun S19 h => ?_)
          refine eGI (kd_95 hL) (Nat.le_of_ble_eq_true rfl) ?_
          refine eIF h (fun c20 h => ?_) (fun c20 h => ?_)
          · refine eLP (fun (s21 : ST) => mkM K R s21) (fun (e21 : ST) => mkM K R e21) h rfl ?_ ?_
            · intro s21 x21 h
              refine eCV (kd_95 hL) (Nat.le_of_ble_eq_true rfl) (fun _ hv => E_X12_is_ok hn hL hv) h (fun v22 h => ?_)
              refine eIF h (fun c23 h => ?_) (fun c23 h => ?_)
              · exact eLeaf (θ := (Sum.map (fun (s21 : ST) => mkM K R s21) (fun (e21 : ST) => mkM K R e21))) h rfl
              · refine eGI (kd_95 hL) (Nat.le_of_ble_eq_true rfl) ?_
                refine eIF h (fun c24 h => ?_) (fun c24 h => ?_)
                · exact eLeaf (θ := (Sum.map (fun (s21 : ST) => mkM K R s21) (fun (e21 : ST) => mkM K R e21))) h rfl
                · refine eCwV (kd_95 hL) (Nat.le_of_ble_eq_true rfl) (fun _ hv => E_X12_comesOut_ok hn hL hv) h (fun S26 h => ?_)
                  refine eGI (kd_95 hL) (Nat.le_of_ble_eq_true rfl) ?_
                  refine ePI (kd_95 hL) (Nat.le_of_ble_eq_true rfl) h (fun S27 h => ?_)
                  refine eGI (kd_95 hL) (Nat.le_of_ble_eq_true rfl) ?_
                  refine ePI (kd_95 hL) (Nat.le_of_ble_eq_true rfl) h (fun S28 h => ?_)
                  refine eCwV (kd_95 hL) (Nat.le_of_ble_eq_true rfl) (fun _ hv => E_X12_goesOn_ok hn hL hv) h (fun S30 h => ?_)
                  exact eLeaf (θ := (Sum.map (fun (s21 : ST) => mkM K R s21) (fun (e21 : ST) => mkM K R e21))) h rfl
            · intro e21 h
              refine eCV (kd_95 hL) (Nat.le_of_ble_eq_true rfl) (fun _ hv => E_X12_is_ok hn hL hv) h (fun v31 h => ?_)
              refine eJN (fun j55 fj55 => ∀ (u32 : Int32), j55 u32 = some x2 → fj55 u32 = some (Sum.map (fun (s2 : Int32 × ST) => (s2.1, mkM K R s2.2)) (Sum.map (fun (e2 : ST) => mkM K R e2) (fun (v : ST) => (mkM K R v))) x2)) h ?_ ?_
              · intro u32 h
                refine eIF h (fun c33 h => ?_) (fun c33 h => ?_)
                · refine eGI (kd_95 hL) (Nat.le_of_ble_eq_true rfl) ?_
                  refine eJN (fun j37 fj37 => ∀ (S34 : ST), j37 S34 = some x2 → fj37 (mkM K R S34) = some (Sum.map (fun (s2 : Int32 × ST) => (s2.1, mkM K R s2.2)) (Sum.map (fun (e2 : ST) => mkM K R e2) (fun (v : ST) => (mkM K R v))) x2)) h ?_ ?_
                  · intro S34 h
                    refine eCwV (kd_95 hL) (Nat.le_of_ble_eq_true rfl) (fun _ hv => E_X12_comesOut_ok hn hL hv) h (fun S36 h => ?_)
                    exact eLeaf (θ := (Sum.map (fun (s2 : Int32 × ST) => (s2.1, mkM K R s2.2)) (Sum.map (fun (e2 : ST) => mkM K R e2) (fun (v : ST) => (mkM K R v))))) h rfl
                  · intro j37 fj37 Jj37 h
                    refine eIF h (fun c38 h => ?_) (fun c38 h => ?_)
                    · exact Jj37 _ h
                    · refine eCwV (kd_95 hL) (Nat.le_of_ble_eq_true rfl) (fun _ hv => E_X12_fail_ok hn hL hv) h (fun S40 h => ?_)
                      exact Jj37 _ h
                · refine eCV (kd_95 hL) (Nat.le_of_ble_eq_true rfl) (fun _ hv => E_X12_is_ok hn hL hv) h (fun v41 h => ?_)
                  refine eJN (fun j50 fj50 => ∀ (u42 : Int32), j50 u42 = some x2 → fj50 u42 = some (Sum.map (fun (s2 : Int32 × ST) => (s2.1, mkM K R s2.2)) (Sum.map (fun (e2 : ST) => mkM K R e2) (fun (v : ST) => (mkM K R v))) x2)) h ?_ ?_
                  · intro u42 h
                    refine eCwV (kd_95 hL) (Nat.le_of_ble_eq_true rfl) (fun _ hv => E_X12_comesOut_ok hn hL hv) h (fun S44 h => ?_)
                    refine eGR (kd_95 hL) (Nat.le_of_ble_eq_true rfl) (rd_95_56 hL) ?_
                    refine eGI (kd_95 hL) (Nat.le_of_ble_eq_true rfl) ?_
                    refine eGR (kd_95 hL) (Nat.le_of_ble_eq_true rfl) (rd_95_5 hL) ?_
                    refine eGI (kd_95 hL) (Nat.le_of_ble_eq_true rfl) ?_
                    refine eRI (kd_98 hL) h (fun v45 h => ?_)
                    refine eWI (kd_136 hL) (Nat.le_of_ble_eq_true rfl) h (fun S46 h => ?_)
                    refine eGI (kd_95 hL) (Nat.le_of_ble_eq_true rfl) ?_
                    refine ePI (kd_95 hL) (Nat.le_of_ble_eq_true rfl) h (fun S47 h => ?_)
                    refine eCwV (kd_95 hL) (Nat.le_of_ble_eq_true rfl) (fun _ hv => E_X12_goesOn_ok hn hL hv) h (fun S49 h => ?_)
                    exact eLeaf (θ := (Sum.map (fun (s2 : Int32 × ST) => (s2.1, mkM K R s2.2)) (Sum.map (fun (e2 : ST) => mkM K R e2) (fun (v : ST) => (mkM K R v))))) h rfl
                  · intro j50 fj50 Jj50 h
                    refine eJN (fun j51 fj51 => j51 = some x2 → fj51 = some (Sum.map (fun (s2 : Int32 × ST) => (s2.1, mkM K R s2.2)) (Sum.map (fun (e2 : ST) => mkM K R e2) (fun (v : ST) => (mkM K R v))) x2)) h ?_ ?_
                    · intro h
                      exact Jj50 _ h
                    · intro j51 fj51 Jj51 h
                      refine eIF h (fun c52 h => ?_) (fun c52 h => ?_)
                      · refine eCV (kd_95 hL) (Nat.le_of_ble_eq_true rfl) (fun _ hv => E_X12_is_ok hn hL hv) h (fun v53 h => ?_)
                        refine eIF h (fun c54 h => ?_) (fun c54 h => ?_)
                        · exact Jj50 _ h
                        · exact Jj51 h
                      · exact Jj51 h
              · intro j55 fj55 Jj55 h
                refine eJN (fun j56 fj56 => j56 = some x2 → fj56 = some (Sum.map (fun (s2 : Int32 × ST) => (s2.1, mkM K R s2.2)) (Sum.map (fun (e2 : ST) => mkM K R e2) (fun (v : ST) => (mkM K R v))) x2)) h ?_ ?_
                · intro h
                  exact Jj55 _ h
                · intro j56 fj56 Jj56 h
                  refine eIF h (fun c57 h => ?_) (fun c57 h => ?_)
                  · refine eCV (kd_95 hL) (Nat.le_of_ble_eq_true rfl) (fun _ hv => E_X12_is_ok hn hL hv) h (fun v58 h => ?_)
                    refine eIF h (fun c59 h => ?_) (fun c59 h => ?_)
                    · refine eCV (kd_95 hL) (Nat.le_of_ble_eq_true rfl) (fun _ hv => E_X12_is_ok hn hL hv) h (fun v60 h => ?_)
                      refine eIF h (fun c61 h => ?_) (fun c61 h => ?_)
                      · refine eCV (kd_95 hL) (Nat.le_of_ble_eq_true rfl) (fun _ hv => E_X12_is_ok hn hL hv) h (fun v62 h => ?_)
                        refine eIF h (fun c63 h => ?_) (fun c63 h => ?_)
                        · exact Jj55 _ h
                        · exact Jj56 h
                      · exact Jj56 h
                    · exact Jj56 h
                  · exact Jj56 h
          · exact eLeaf (θ := (Sum.map (fun (s2 : Int32 × ST) => (s2.1, mkM K R s2.2)) (Sum.map (fun (e2 : ST) => mkM K R e2) (fun (v : ST) => (mkM K R v))))) h rfl
      · exact eLeaf (θ := (Sum.map (fun (s2 : Int32 × ST) => (s2.1, mkM K R s2.2)) (Sum.map (fun (e2 : ST) => mkM K R e2) (fun (v : ST) => (mkM K R v))))) h rfl
  · intro z2 h
    rcases z2 with e2 | v
    · have h := sum_inl h
      exact eLeaf (θ := (fun (o : ST) => (mkM K R o))) h rfl
    · have h := sum_inr h
      exact eLeaf (θ := (fun (o : ST) => (mkM K R o))) h rfl
-- OnlyUpwardModel.literal(Z)V
set_option maxRecDepth 100000 in
set_option maxHeartbeats 4000000 in
def E_X12_literal (n : Nat) (S : ST) (a1 : Int32) : Option ST :=
  (iter (fun (s1 : Int32 × ST) => (E_X12_is n s1.2 (35 : Int32)).bind fun v2 => if v2 = 0 then some (.inr (s1.1, s1.2)) else jn (fun (u4 : Int32) => (E_X12_goesOn n s1.2 ).bind fun S6 => some (.inl (u4, S6))) fun j7 => if s1.1 = 0 then j7 (1 : Int32) else j7 (0 : Int32)) n ((0 : Int32), S)).bind fun (e1 : Int32 × ST) => (E_X12_expression n e1.2 ).bind fun S10 => jn (fun (u11 : Int32) => jn (fun (S12 : ST) => (E_X12_goesOn n S12 ).bind fun S14 => (E_X12_expression n S14 ).bind fun S16 => if (S16.1 95 13) ≤ 0 then (wr S16 128 300 (S16.1 95 46) u11).bind fun S18 => (wr S18 129 300 (S18.1 95 46) (e1.1 &&& 1)).bind fun S19 => (wr S19 130 300 (S19.1 95 46) (a1 &&& 1)).bind fun S20 => (wr S20 131 300 (S20.1 95 46) (e1.2.1 95 53)).bind fun S21 => (wr S21 132 300 (S21.1 95 46) (S14.1 95 53)).bind fun S22 => (wr S22 133 300 (S22.1 95 46) (S22.1 95 53)).bind fun S23 => lets (upI S23 95 46 ((S23.1 95 46) + (1 : Int32))) fun (S24 : ST) => some S24 else some S16) fun j25 => if (S10.1 95 13) = 0 then jn ((E_X12_fail n S10 (1 : Int32)).bind fun S28 => j25 S28) fun j29 => if u11 < 0 then j29 else if u11 ≤ (3 : Int32) then j25 S10 else j29 else j25 S10) fun j32 => if (S10.1 95 13) ≤ 0 then (rd (S10.1 98) 403 (S10.1 95 11)).bind fun v34 => j32 (v34 - (11 : Int32)) else j32 (0 : Int32)
set_option maxRecDepth 100000 in
set_option maxHeartbeats 4000000 in
theorem E_X12_literal_ok {n : Nat} (hn : 30000 ≤ n) {K : AK} {R : Nat → Nat → Option Nat} {S : ST} {a1 : Int32} {tz en : Nat} (hL : Lay K R tz en) {o : ST} (h : E_X12_literal n S a1 = some o) : F_X12_literal n (mkM K R S) 95 a1 = some (mkM K R o) := by
  unfold E_X12_literal at h
  unfold F_X12_literal
  refine eLP (fun (s1 : Int32 × ST) => (s1.1, mkM K R s1.2)) (fun (e1 : Int32 × ST) => (e1.1, mkM K R e1.2)) h rfl ?_ ?_
  · intro s1 x1 h
    refine eCV (kd_95 hL) (Nat.le_of_ble_eq_true rfl) (fun _ hv => E_X12_is_ok hn hL hv) h (fun v2 h => ?_)
    refine eIF h (fun c3 h => ?_) (fun c3 h => ?_)
    · exact eLeaf (θ := (Sum.map (fun (s1 : Int32 × ST) => (s1.1, mkM K R s1.2)) (fun (e1 : Int32 × ST) => (e1.1, mkM K R e1.2)))) h rfl
    · refine eJN (fun j7 fj7 => ∀ (u4 : Int32), j7 u4 = some x1 → fj7 u4 = some (Sum.map (fun (s1 : Int32 × ST) => (s1.1, mkM K R s1.2)) (fun (e1 : Int32 × ST) => (e1.1, mkM K R e1.2)) x1)) h ?_ ?_
      · intro u4 h
        refine eCwV (kd_95 hL) (Nat.le_of_ble_eq_true rfl) (fun _ hv => E_X12_goesOn_ok hn hL hv) h (fun S6 h => ?_)
        exact eLeaf (θ := (Sum.map (fun (s1 : Int32 × ST) => (s1.1, mkM K R s1.2)) (fun (e1 : Int32 × ST) => (e1.1, mkM K R e1.2)))) h rfl
      · intro j7 fj7 Jj7 h
        refine eIF h (fun c8 h => ?_) (fun c8 h => ?_)
        · exact Jj7 _ h
        · exact Jj7 _ h
  · intro e1 h
    refine eGI (kd_95 hL) (Nat.le_of_ble_eq_true rfl) ?_
    refine eCwV (kd_95 hL) (Nat.le_of_ble_eq_true rfl) (fun _ hv => E_X12_expression_ok hn hL hv) h (fun S10 h => ?_)
    refine eGI (kd_95 hL) (Nat.le_of_ble_eq_true rfl) ?_
    refine eJN (fun j32 fj32 => ∀ (u11 : Int32), j32 u11 = some o → fj32 u11 = some (mkM K R o)) h ?_ ?_
    · intro u11 h
      refine eGI (kd_95 hL) (Nat.le_of_ble_eq_true rfl) ?_
      refine eJN (fun j25 fj25 => ∀ (S12 : ST), j25 S12 = some o → fj25 (mkM K R S12) = some (mkM K R o)) h ?_ ?_
      · intro S12 h
        refine eCwV (kd_95 hL) (Nat.le_of_ble_eq_true rfl) (fun _ hv => E_X12_goesOn_ok hn hL hv) h (fun S14 h => ?_)
        refine eGI (kd_95 hL) (Nat.le_of_ble_eq_true rfl) ?_
        refine eCwV (kd_95 hL) (Nat.le_of_ble_eq_true rfl) (fun _ hv => E_X12_expression_ok hn hL hv) h (fun S16 h => ?_)
        refine eGI (kd_95 hL) (Nat.le_of_ble_eq_true rfl) ?_
        refine eIF h (fun c17 h => ?_) (fun c17 h => ?_)
        · refine eGR (kd_95 hL) (Nat.le_of_ble_eq_true rfl) (rd_95_47 hL) ?_
          refine eGI (kd_95 hL) (Nat.le_of_ble_eq_true rfl) ?_
          refine eWI (kd_128 hL) (Nat.le_of_ble_eq_true rfl) h (fun S18 h => ?_)
          refine eGR (kd_95 hL) (Nat.le_of_ble_eq_true rfl) (rd_95_48 hL) ?_
          refine eGI (kd_95 hL) (Nat.le_of_ble_eq_true rfl) ?_
          refine eWZ (kd_129 hL) (Nat.le_of_ble_eq_true rfl) h (fun S19 h => ?_)
          refine eGR (kd_95 hL) (Nat.le_of_ble_eq_true rfl) (rd_95_49 hL) ?_
          refine eGI (kd_95 hL) (Nat.le_of_ble_eq_true rfl) ?_
          refine eWZ (kd_130 hL) (Nat.le_of_ble_eq_true rfl) h (fun S20 h => ?_)
          refine eGR (kd_95 hL) (Nat.le_of_ble_eq_true rfl) (rd_95_50 hL) ?_
          refine eGI (kd_95 hL) (Nat.le_of_ble_eq_true rfl) ?_
          refine eWI (kd_131 hL) (Nat.le_of_ble_eq_true rfl) h (fun S21 h => ?_)
          refine eGR (kd_95 hL) (Nat.le_of_ble_eq_true rfl) (rd_95_51 hL) ?_
          refine eGI (kd_95 hL) (Nat.le_of_ble_eq_true rfl) ?_
          refine eWI (kd_132 hL) (Nat.le_of_ble_eq_true rfl) h (fun S22 h => ?_)
          refine eGR (kd_95 hL) (Nat.le_of_ble_eq_true rfl) (rd_95_52 hL) ?_
          refine eGI (kd_95 hL) (Nat.le_of_ble_eq_true rfl) ?_
          refine eGI (kd_95 hL) (Nat.le_of_ble_eq_true rfl) ?_
          refine eWI (kd_133 hL) (Nat.le_of_ble_eq_true rfl) h (fun S23 h => ?_)
          refine eGI (kd_95 hL) (Nat.le_of_ble_eq_true rfl) ?_
          refine ePI (kd_95 hL) (Nat.le_of_ble_eq_true rfl) h (fun S24 h => ?_)
          exact eLeaf (θ := (fun (o : ST) => (mkM K R o))) h rfl
        · exact eLeaf (θ := (fun (o : ST) => (mkM K R o))) h rfl
      · intro j25 fj25 Jj25 h
        refine eIF h (fun c26 h => ?_) (fun c26 h => ?_)
        · refine eJN (fun j29 fj29 => j29 = some o → fj29 = some (mkM K R o)) h ?_ ?_
          · intro h
            refine eCwV (kd_95 hL) (Nat.le_of_ble_eq_true rfl) (fun _ hv => E_X12_fail_ok hn hL hv) h (fun S28 h => ?_)
            exact Jj25 _ h
          · intro j29 fj29 Jj29 h
            refine eIF h (fun c30 h => ?_) (fun c30 h => ?_)
            · exact Jj29 h
            · refine eIF h (fun c31 h => ?_) (fun c31 h => ?_)
              · exact Jj25 _ h
              · exact Jj29 h
        · exact Jj25 _ h
    · intro j32 fj32 Jj32 h
      refine eIF h (fun c33 h => ?_) (fun c33 h => ?_)
      · refine eGR (kd_95 hL) (Nat.le_of_ble_eq_true rfl) (rd_95_5 hL) ?_
        refine eGI (kd_95 hL) (Nat.le_of_ble_eq_true rfl) ?_
        refine eRI (kd_98 hL) h (fun v34 h => ?_)
        exact Jj32 _ h
      · exact Jj32 _ h
-- OnlyUpwardModel.tellLaw(I)V
set_option maxRecDepth 100000 in
set_option maxHeartbeats 4000000 in
def E_X12_tellLaw (n : Nat) (S : ST) (a1 : Int32) : Option ST :=
  (rd (S.1 125) 4 (((2 : Int32) * (S.1 95 19)) + a1)).bind fun v1 => jn (fun (S2 : ST) => if (S2.1 95 13) ≤ 0 then (rd (S2.1 125) 4 (((2 : Int32) * (S2.1 95 19)) + a1)).bind fun v4 => lets ((((8 : Int32) * (S2.1 95 19)) + ((4 : Int32) * a1)) + v4) fun (w5 : Int32) => (E_X12_goesOn n S2 ).bind fun S7 => (wr S7 126 16 w5 (S7.1 95 46)).bind fun S8 => (E_X12_must n S8 (32 : Int32)).bind fun S10 => jn (fun (u11 : Int32) => (iter (fun (s12 : Int32 × Int32 × ST) => if s12.2.1 = 0 then some (.inr s12.2.2) else if (s12.2.2.1 95 13) = 0 then (E_X12_literal n s12.2.2 s12.1).bind fun S16 => (E_X12_is n S16 (33 : Int32)).bind fun v17 => jn (fun (u18 : Int32) => if u18 = 0 then some (.inl (v17, u18, S16)) else (E_X12_goesOn n S16 ).bind fun S21 => some (.inl (v17, u18, S21))) fun j22 => jn (j22 (1 : Int32)) fun j23 => if v17 = 0 then (E_X12_is n S16 (34 : Int32)).bind fun v25 => if v25 = 0 then j22 (0 : Int32) else j23 else j23 else some (.inr s12.2.2)) n ((1 : Int32), u11, S10)).bind fun (e12 : ST) => (wr e12 127 16 w5 (e12.1 95 46)).bind fun S27 => (E_X12_must n S27 (4 : Int32)).bind fun S29 => if (S29.1 95 13) = 0 then (rd (S29.1 125) 4 (((2 : Int32) * (S29.1 95 19)) + a1)).bind fun v31 => (wr S29 125 4 (((2 : Int32) * (S29.1 95 19)) + a1) (v31 + (1 : Int32))).bind fun S32 => some S32 else some S29) fun j33 => if (S10.1 95 13) = 0 then j33 (1 : Int32) else j33 (0 : Int32) else some S2) fun j35 => if v1 = (4 : Int32) then (E_X12_fail n S (2 : Int32)).bind fun S38 => j35 S38 else j35 S
set_option maxRecDepth 100000 in
set_option maxHeartbeats 4000000 in
theorem E_X12_tellLaw_ok {n : Nat} (hn : 30000 ≤ n) {K : AK} {R : Nat → Nat → Option Nat} {S : ST} {a1 : Int32} {tz en : Nat} (hL : Lay K R tz en) {o : ST} (h : E_X12_tellLaw n S a1 = some o) : F_X12_tellLaw n (mkM K R S) 95 a1 = some (mkM K R o) := by
  unfold E_X12_tellLaw at h
  unfold F_X12_tellLaw
  refine eGR (kd_95 hL) (Nat.le_of_ble_eq_true rfl) (rd_95_43 hL) ?_
  refine eGI (kd_95 hL) (Nat.le_of_ble_eq_true rfl) ?_
  refine eRI (kd_125 hL) h (fun v1 h => ?_)
  refine eJN (fun j35 fj35 => ∀ (S2 : ST), j35 S2 = some o → fj35 (mkM K R S2) = some (mkM K R o)) h ?_ ?_
  · intro S2 h
    refine eGI (kd_95 hL) (Nat.le_of_ble_eq_true rfl) ?_
    refine eIF h (fun c3 h => ?_) (fun c3 h => ?_)
    · refine eGI (kd_95 hL) (Nat.le_of_ble_eq_true rfl) ?_
      refine eGR (kd_95 hL) (Nat.le_of_ble_eq_true rfl) (rd_95_43 hL) ?_
      refine eGI (kd_95 hL) (Nat.le_of_ble_eq_true rfl) ?_
      refine eRI (kd_125 hL) h (fun v4 h => ?_)
      refine eLT h (fun w5 h => ?_)
      refine eCwV (kd_95 hL) (Nat.le_of_ble_eq_true rfl) (fun _ hv => E_X12_goesOn_ok hn hL hv) h (fun S7 h => ?_)
      refine eGR (kd_95 hL) (Nat.le_of_ble_eq_true rfl) (rd_95_44 hL) ?_
      refine eGI (kd_95 hL) (Nat.le_of_ble_eq_true rfl) ?_
      refine eWI (kd_126 hL) (Nat.le_of_ble_eq_true rfl) h (fun S8 h => ?_)
      refine eCwV (kd_95 hL) (Nat.le_of_ble_eq_true rfl) (fun _ hv => E_X12_must_ok hn hL hv) h (fun S10 h => ?_)
      refine eGI (kd_95 hL) (Nat.le_of_ble_eq_true rfl) ?_
      refine eJN (fun j33 fj33 => ∀ (u11 : Int32), j33 u11 = some o → fj33 u11 = some (mkM K R o)) h ?_ ?_
      · intro u11 h
        refine eLP (fun (s12 : Int32 × Int32 × ST) => (s12.1, s12.2.1, mkM K R s12.2.2)) (fun (e12 : ST) => mkM K R e12) h rfl ?_ ?_
        · intro s12 x12 h
          refine eIF h (fun c13 h => ?_) (fun c13 h => ?_)
          · exact eLeaf (θ := (Sum.map (fun (s12 : Int32 × Int32 × ST) => (s12.1, s12.2.1, mkM K R s12.2.2)) (fun (e12 : ST) => mkM K R e12))) h rfl
          · refine eGI (kd_95 hL) (Nat.le_of_ble_eq_true rfl) ?_
            refine eIF h (fun c14 h => ?_) (fun c14 h => ?_)
            · refine eCwV (kd_95 hL) (Nat.le_of_ble_eq_true rfl) (fun _ hv => E_X12_literal_ok hn hL hv) h (fun S16 h => ?_)
              refine eCV (kd_95 hL) (Nat.le_of_ble_eq_true rfl) (fun _ hv => E_X12_is_ok hn hL hv) h (fun v17 h => ?_)
              refine eJN (fun j22 fj22 => ∀ (u18 : Int32), j22 u18 = some x12 → fj22 u18 = some (Sum.map (fun (s12 : Int32 × Int32 × ST) => (s12.1, s12.2.1, mkM K R s12.2.2)) (fun (e12 : ST) => mkM K R e12) x12)) h ?_ ?_
              · intro u18 h
                refine eIF h (fun c19 h => ?_) (fun c19 h => ?_)
                · exact eLeaf (θ := (Sum.map (fun (s12 : Int32 × Int32 × ST) => (s12.1, s12.2.1, mkM K R s12.2.2)) (fun (e12 : ST) => mkM K R e12))) h rfl
                · refine eCwV (kd_95 hL) (Nat.le_of_ble_eq_true rfl) (fun _ hv => E_X12_goesOn_ok hn hL hv) h (fun S21 h => ?_)
                  exact eLeaf (θ := (Sum.map (fun (s12 : Int32 × Int32 × ST) => (s12.1, s12.2.1, mkM K R s12.2.2)) (fun (e12 : ST) => mkM K R e12))) h rfl
              · intro j22 fj22 Jj22 h
                refine eJN (fun j23 fj23 => j23 = some x12 → fj23 = some (Sum.map (fun (s12 : Int32 × Int32 × ST) => (s12.1, s12.2.1, mkM K R s12.2.2)) (fun (e12 : ST) => mkM K R e12) x12)) h ?_ ?_
                · intro h
                  exact Jj22 _ h
                · intro j23 fj23 Jj23 h
                  refine eIF h (fun c24 h => ?_) (fun c24 h => ?_)
                  · refine eCV (kd_95 hL) (Nat.le_of_ble_eq_true rfl) (fun _ hv => E_X12_is_ok hn hL hv) h (fun v25 h => ?_)
                    refine eIF h (fun c26 h => ?_) (fun c26 h => ?_)
                    · exact Jj22 _ h
                    · exact Jj23 h
                  · exact Jj23 h
            · exact eLeaf (θ := (Sum.map (fun (s12 : Int32 × Int32 × ST) => (s12.1, s12.2.1, mkM K R s12.2.2)) (fun (e12 : ST) => mkM K R e12))) h rfl
        · intro e12 h
          refine eGR (kd_95 hL) (Nat.le_of_ble_eq_true rfl) (rd_95_45 hL) ?_
          refine eGI (kd_95 hL) (Nat.le_of_ble_eq_true rfl) ?_
          refine eWI (kd_127 hL) (Nat.le_of_ble_eq_true rfl) h (fun S27 h => ?_)
          refine eCwV (kd_95 hL) (Nat.le_of_ble_eq_true rfl) (fun _ hv => E_X12_must_ok hn hL hv) h (fun S29 h => ?_)
          refine eGI (kd_95 hL) (Nat.le_of_ble_eq_true rfl) ?_
          refine eIF h (fun c30 h => ?_) (fun c30 h => ?_)
          · refine eGR (kd_95 hL) (Nat.le_of_ble_eq_true rfl) (rd_95_43 hL) ?_
            refine eGI (kd_95 hL) (Nat.le_of_ble_eq_true rfl) ?_
            refine eRI (kd_125 hL) h (fun v31 h => ?_)
            refine eWI (kd_125 hL) (Nat.le_of_ble_eq_true rfl) h (fun S32 h => ?_)
            exact eLeaf (θ := (fun (o : ST) => (mkM K R o))) h rfl
          · exact eLeaf (θ := (fun (o : ST) => (mkM K R o))) h rfl
      · intro j33 fj33 Jj33 h
        refine eIF h (fun c34 h => ?_) (fun c34 h => ?_)
        · exact Jj33 _ h
        · exact Jj33 _ h
    · exact eLeaf (θ := (fun (o : ST) => (mkM K R o))) h rfl
  · intro j35 fj35 Jj35 h
    refine eIF h (fun c36 h => ?_) (fun c36 h => ?_)
    · refine eCwV (kd_95 hL) (Nat.le_of_ble_eq_true rfl) (fun _ hv => E_X12_fail_ok hn hL hv) h (fun S38 h => ?_)
      exact Jj35 _ h
    · exact Jj35 _ h
-- OnlyUpwardModel.tell()V
set_option maxRecDepth 100000 in
set_option maxHeartbeats 4000000 in
def E_X12_tell (n : Nat) (S : ST) : Option ST :=
  (rd (S.1 98) 403 (S.1 95 11)).bind fun v1 => jn ((E_X12_fail n S (1 : Int32)).bind fun S3 => some S3) fun j4 => jn ((rd (S.1 98) 403 (S.1 95 11)).bind fun v5 => (E_X12_tellLaw n S (v5 - (30 : Int32))).bind fun S7 => some S7) fun j8 => if v1 = (20 : Int32) then (E_X12_next n S (0 : Int32)).bind fun v10 => (E_X12_named n v10.2 ).bind fun v11 => (E_X12_comes n v11.2 (0 : Int32)).bind fun S13 => (E_X12_notes n S13 v11.1 (0 : Int32) v10.1).bind fun S15 => some S15 else if v1 = (21 : Int32) then (E_X12_tellPerson n S ).bind fun S18 => some S18 else if v1 = (22 : Int32) then j4 else if v1 = (23 : Int32) then (E_X12_next n S (2 : Int32)).bind fun v21 => (E_X12_named n v21.2 ).bind fun v22 => (E_X12_bounded n v22.2 (0 : Int32) (99 : Int32)).bind fun v23 => (E_X12_comes n v23.2 (2 : Int32)).bind fun S25 => (E_X12_notes n S25 v22.1 (2 : Int32) v21.1).bind fun S27 => if (S27.1 95 13) = 0 then (wr S27 110 12 (((6 : Int32) * (S27.1 95 19)) + v21.1) v23.1).bind fun S29 => some S29 else some S27 else if v1 = (24 : Int32) then (E_X12_next n S (3 : Int32)).bind fun v31 => (E_X12_known n v31.2 (0 : Int32)).bind fun v32 => (E_X12_known n v32.2 (0 : Int32)).bind fun v33 => jn (fun (S34 : ST) => (E_X12_comes n S34 (3 : Int32)).bind fun S36 => if (S36.1 95 13) = 0 then (wr S36 111 16 (((8 : Int32) * (S36.1 95 19)) + v31.1) v32.1).bind fun S38 => (wr S38 112 16 (((8 : Int32) * (S38.1 95 19)) + v31.1) v33.1).bind fun S39 => some S39 else some S36) fun j40 => if (v33.2.1 95 13) = 0 then if v32.1 = (-1 : Int32) then j40 v33.2 else if v32.1 = v33.1 then (E_X12_wrong n v33.2 (5 : Int32) (v32.2.1 95 11)).bind fun S45 => j40 S45 else j40 v33.2 else j40 v33.2 else if v1 = (25 : Int32) then (E_X12_tellStay n S ).bind fun S48 => some S48 else if v1 = (26 : Int32) then (E_X12_next n S (5 : Int32)).bind fun v50 => (E_X12_known n v50.2 (1 : Int32)).bind fun v51 => (E_X12_known n v51.2 (2 : Int32)).bind fun v52 => (E_X12_comes n v52.2 (5 : Int32)).bind fun S54 => if (S54.1 95 13) = 0 then (wr S54 117 24 (((12 : Int32) * (S54.1 95 19)) + v50.1) v51.1).bind fun S56 => (wr S56 118 24 (((12 : Int32) * (S56.1 95 19)) + v50.1) v52.1).bind fun S57 => some S57 else some S54 else if v1 = (27 : Int32) then (E_X12_next n S (6 : Int32)).bind fun v59 => (E_X12_known n v59.2 (1 : Int32)).bind fun v60 => (E_X12_known n v60.2 (2 : Int32)).bind fun v61 => (E_X12_bounded n v61.2 (0 : Int32) (23 : Int32)).bind fun v62 => (E_X12_comes n v62.2 (6 : Int32)).bind fun S64 => if (S64.1 95 13) = 0 then (wr S64 119 24 (((12 : Int32) * (S64.1 95 19)) + v59.1) v60.1).bind fun S66 => (wr S66 120 24 (((12 : Int32) * (S66.1 95 19)) + v59.1) v61.1).bind fun S67 => (wr S67 121 24 (((12 : Int32) * (S67.1 95 19)) + v59.1) v62.1).bind fun S68 => some S68 else some S64 else if v1 = (28 : Int32) then (E_X12_next n S (7 : Int32)).bind fun v70 => (E_X12_named n v70.2 ).bind fun v71 => (E_X12_known n v71.2 (2 : Int32)).bind fun v72 => (E_X12_bounded n v72.2 (1 : Int32) (99 : Int32)).bind fun v73 => (E_X12_comes n v73.2 (7 : Int32)).bind fun S75 => (E_X12_notes n S75 v71.1 (3 : Int32) v70.1).bind fun S77 => if (S77.1 95 13) = 0 then (wr S77 122 12 (((6 : Int32) * (S77.1 95 19)) + v70.1) v72.1).bind fun S79 => (wr S79 123 12 (((6 : Int32) * (S79.1 95 19)) + v70.1) v73.1).bind fun S80 => some S80 else some S77 else if v1 = (29 : Int32) then (rd (S.1 107) 2 (S.1 95 19)).bind fun v82 => jn (fun (S83 : ST) => if (S83.1 95 13) = 0 then (E_X12_tellTask n S83 ).bind fun S86 => some S86 else some S83) fun j87 => if v82 = (4 : Int32) then (E_X12_fail n S (2 : Int32)).bind fun S90 => j87 S90 else j87 S else if v1 = (30 : Int32) then j8 else if v1 = (31 : Int32) then j8 else j4
set_option maxRecDepth 100000 in
set_option maxHeartbeats 4000000 in
theorem E_X12_tell_ok {n : Nat} (hn : 30000 ≤ n) {K : AK} {R : Nat → Nat → Option Nat} {S : ST} {tz en : Nat} (hL : Lay K R tz en) {o : ST} (h : E_X12_tell n S  = some o) : F_X12_tell n (mkM K R S) 95 = some (mkM K R o) := by
  unfold E_X12_tell at h
  unfold F_X12_tell
  refine eGR (kd_95 hL) (Nat.le_of_ble_eq_true rfl) (rd_95_5 hL) ?_
  refine eGI (kd_95 hL) (Nat.le_of_ble_eq_true rfl) ?_
  refine eRI (kd_98 hL) h (fun v1 h => ?_)
  refine eJN (fun j4 fj4 => j4 = some o → fj4 = some (mkM K R o)) h ?_ ?_
  · intro h
    refine eCwV (kd_95 hL) (Nat.le_of_ble_eq_true rfl) (fun _ hv => E_X12_fail_ok hn hL hv) h (fun S3 h => ?_)
    exact eLeaf (θ := (fun (o : ST) => (mkM K R o))) h rfl
  · intro j4 fj4 Jj4 h
    refine eJN (fun j8 fj8 => j8 = some o → fj8 = some (mkM K R o)) h ?_ ?_
    · intro h
      refine eGR (kd_95 hL) (Nat.le_of_ble_eq_true rfl) (rd_95_5 hL) ?_
      refine eGI (kd_95 hL) (Nat.le_of_ble_eq_true rfl) ?_
      refine eRI (kd_98 hL) h (fun v5 h => ?_)
      refine eCwV (kd_95 hL) (Nat.le_of_ble_eq_true rfl) (fun _ hv => E_X12_tellLaw_ok hn hL hv) h (fun S7 h => ?_)
      exact eLeaf (θ := (fun (o : ST) => (mkM K R o))) h rfl
    · intro j8 fj8 Jj8 h
      refine eIF h (fun c9 h => ?_) (fun c9 h => ?_)
      · refine eCwiV (kd_95 hL) (Nat.le_of_ble_eq_true rfl) (fun _ hv => E_X12_next_ok hn hL hv) h (fun v10 h => ?_)
        refine eCwiV (kd_95 hL) (Nat.le_of_ble_eq_true rfl) (fun _ hv => E_X12_named_ok hn hL hv) h (fun v11 h => ?_)
        refine eCwV (kd_95 hL) (Nat.le_of_ble_eq_true rfl) (fun _ hv => E_X12_comes_ok hn hL hv) h (fun S13 h => ?_)
        refine eCwV (kd_95 hL) (Nat.le_of_ble_eq_true rfl) (fun _ hv => E_X12_notes_ok hn hL hv) h (fun S15 h => ?_)
        exact eLeaf (θ := (fun (o : ST) => (mkM K R o))) h rfl
      · refine eIF h (fun c16 h => ?_) (fun c16 h => ?_)
        · refine eCwV (kd_95 hL) (Nat.le_of_ble_eq_true rfl) (fun _ hv => E_X12_tellPerson_ok hn hL hv) h (fun S18 h => ?_)
          exact eLeaf (θ := (fun (o : ST) => (mkM K R o))) h rfl
        · refine eIF h (fun c19 h => ?_) (fun c19 h => ?_)
          · exact Jj4 h
          · refine eIF h (fun c20 h => ?_) (fun c20 h => ?_)
            · refine eCwiV (kd_95 hL) (Nat.le_of_ble_eq_true rfl) (fun _ hv => E_X12_next_ok hn hL hv) h (fun v21 h => ?_)
              refine eCwiV (kd_95 hL) (Nat.le_of_ble_eq_true rfl) (fun _ hv => E_X12_named_ok hn hL hv) h (fun v22 h => ?_)
              refine eCwiV (kd_95 hL) (Nat.le_of_ble_eq_true rfl) (fun _ hv => E_X12_bounded_ok hn hL hv) h (fun v23 h => ?_)
              refine eCwV (kd_95 hL) (Nat.le_of_ble_eq_true rfl) (fun _ hv => E_X12_comes_ok hn hL hv) h (fun S25 h => ?_)
              refine eCwV (kd_95 hL) (Nat.le_of_ble_eq_true rfl) (fun _ hv => E_X12_notes_ok hn hL hv) h (fun S27 h => ?_)
              refine eGI (kd_95 hL) (Nat.le_of_ble_eq_true rfl) ?_
              refine eIF h (fun c28 h => ?_) (fun c28 h => ?_)
              · refine eGR (kd_95 hL) (Nat.le_of_ble_eq_true rfl) (rd_95_28 hL) ?_
                refine eGI (kd_95 hL) (Nat.le_of_ble_eq_true rfl) ?_
                refine eWI (kd_110 hL) (Nat.le_of_ble_eq_true rfl) h (fun S29 h => ?_)
                exact eLeaf (θ := (fun (o : ST) => (mkM K R o))) h rfl
              · exact eLeaf (θ := (fun (o : ST) => (mkM K R o))) h rfl
            · refine eIF h (fun c30 h => ?_) (fun c30 h => ?_)
              · refine eCwiV (kd_95 hL) (Nat.le_of_ble_eq_true rfl) (fun _ hv => E_X12_next_ok hn hL hv) h (fun v31 h => ?_)
                refine eCwiV (kd_95 hL) (Nat.le_of_ble_eq_true rfl) (fun _ hv => E_X12_known_ok hn hL hv) h (fun v32 h => ?_)
                refine eGI (kd_95 hL) (Nat.le_of_ble_eq_true rfl) ?_
                refine eCwiV (kd_95 hL) (Nat.le_of_ble_eq_true rfl) (fun _ hv => E_X12_known_ok hn hL hv) h (fun v33 h => ?_)
                refine eGI (kd_95 hL) (Nat.le_of_ble_eq_true rfl) ?_
                refine eJN (fun j40 fj40 => ∀ (S34 : ST), j40 S34 = some o → fj40 (mkM K R S34) = some (mkM K R o)) h ?_ ?_
                · intro S34 h
                  refine eCwV (kd_95 hL) (Nat.le_of_ble_eq_true rfl) (fun _ hv => E_X12_comes_ok hn hL hv) h (fun S36 h => ?_)
                  refine eGI (kd_95 hL) (Nat.le_of_ble_eq_true rfl) ?_
                  refine eIF h (fun c37 h => ?_) (fun c37 h => ?_)
                  · refine eGR (kd_95 hL) (Nat.le_of_ble_eq_true rfl) (rd_95_29 hL) ?_
                    refine eGI (kd_95 hL) (Nat.le_of_ble_eq_true rfl) ?_
                    refine eWI (kd_111 hL) (Nat.le_of_ble_eq_true rfl) h (fun S38 h => ?_)
                    refine eGR (kd_95 hL) (Nat.le_of_ble_eq_true rfl) (rd_95_30 hL) ?_
                    refine eGI (kd_95 hL) (Nat.le_of_ble_eq_true rfl) ?_
                    refine eWI (kd_112 hL) (Nat.le_of_ble_eq_true rfl) h (fun S39 h => ?_)
                    exact eLeaf (θ := (fun (o : ST) => (mkM K R o))) h rfl
                  · exact eLeaf (θ := (fun (o : ST) => (mkM K R o))) h rfl
                · intro j40 fj40 Jj40 h
                  refine eIF h (fun c41 h => ?_) (fun c41 h => ?_)
                  · refine eIF h (fun c42 h => ?_) (fun c42 h => ?_)
                    · exact Jj40 _ h
                    · refine eIF h (fun c43 h => ?_) (fun c43 h => ?_)
                      · refine eCwV (kd_95 hL) (Nat.le_of_ble_eq_true rfl) (fun _ hv => E_X12_wrong_ok hn hL hv) h (fun S45 h => ?_)
                        exact Jj40 _ h
                      · exact Jj40 _ h
                  · exact Jj40 _ h
              · refine eIF h (fun c46 h => ?_) (fun c46 h => ?_)
                · refine eCwV (kd_95 hL) (Nat.le_of_ble_eq_true rfl) (fun _ hv => E_X12_tellStay_ok hn hL hv) h (fun S48 h => ?_)
                  exact eLeaf (θ := (fun (o : ST) => (mkM K R o))) h rfl
                · refine eIF h (fun c49 h => ?_) (fun c49 h => ?_)
                  · refine eCwiV (kd_95 hL) (Nat.le_of_ble_eq_true rfl) (fun _ hv => E_X12_next_ok hn hL hv) h (fun v50 h => ?_)
                    refine eCwiV (kd_95 hL) (Nat.le_of_ble_eq_true rfl) (fun _ hv => E_X12_known_ok hn hL hv) h (fun v51 h => ?_)
                    refine eCwiV (kd_95 hL) (Nat.le_of_ble_eq_true rfl) (fun _ hv => E_X12_known_ok hn hL hv) h (fun v52 h => ?_)
                    refine eCwV (kd_95 hL) (Nat.le_of_ble_eq_true rfl) (fun _ hv => E_X12_comes_ok hn hL hv) h (fun S54 h => ?_)
                    refine eGI (kd_95 hL) (Nat.le_of_ble_eq_true rfl) ?_
                    refine eIF h (fun c55 h => ?_) (fun c55 h => ?_)
                    · refine eGR (kd_95 hL) (Nat.le_of_ble_eq_true rfl) (rd_95_35 hL) ?_
                      refine eGI (kd_95 hL) (Nat.le_of_ble_eq_true rfl) ?_
                      refine eWI (kd_117 hL) (Nat.le_of_ble_eq_true rfl) h (fun S56 h => ?_)
                      refine eGR (kd_95 hL) (Nat.le_of_ble_eq_true rfl) (rd_95_36 hL) ?_
                      refine eGI (kd_95 hL) (Nat.le_of_ble_eq_true rfl) ?_
                      refine eWI (kd_118 hL) (Nat.le_of_ble_eq_true rfl) h (fun S57 h => ?_)
                      exact eLeaf (θ := (fun (o : ST) => (mkM K R o))) h rfl
                    · exact eLeaf (θ := (fun (o : ST) => (mkM K R o))) h rfl
                  · refine eIF h (fun c58 h => ?_) (fun c58 h => ?_)
                    · refine eCwiV (kd_95 hL) (Nat.le_of_ble_eq_true rfl) (fun _ hv => E_X12_next_ok hn hL hv) h (fun v59 h => ?_)
                      refine eCwiV (kd_95 hL) (Nat.le_of_ble_eq_true rfl) (fun _ hv => E_X12_known_ok hn hL hv) h (fun v60 h => ?_)
                      refine eCwiV (kd_95 hL) (Nat.le_of_ble_eq_true rfl) (fun _ hv => E_X12_known_ok hn hL hv) h (fun v61 h => ?_)
                      refine eCwiV (kd_95 hL) (Nat.le_of_ble_eq_true rfl) (fun _ hv => E_X12_bounded_ok hn hL hv) h (fun v62 h => ?_)
                      refine eCwV (kd_95 hL) (Nat.le_of_ble_eq_true rfl) (fun _ hv => E_X12_comes_ok hn hL hv) h (fun S64 h => ?_)
                      refine eGI (kd_95 hL) (Nat.le_of_ble_eq_true rfl) ?_
                      refine eIF h (fun c65 h => ?_) (fun c65 h => ?_)
                      · refine eGR (kd_95 hL) (Nat.le_of_ble_eq_true rfl) (rd_95_37 hL) ?_
                        refine eGI (kd_95 hL) (Nat.le_of_ble_eq_true rfl) ?_
                        refine eWI (kd_119 hL) (Nat.le_of_ble_eq_true rfl) h (fun S66 h => ?_)
                        refine eGR (kd_95 hL) (Nat.le_of_ble_eq_true rfl) (rd_95_38 hL) ?_
                        refine eGI (kd_95 hL) (Nat.le_of_ble_eq_true rfl) ?_
                        refine eWI (kd_120 hL) (Nat.le_of_ble_eq_true rfl) h (fun S67 h => ?_)
                        refine eGR (kd_95 hL) (Nat.le_of_ble_eq_true rfl) (rd_95_39 hL) ?_
                        refine eGI (kd_95 hL) (Nat.le_of_ble_eq_true rfl) ?_
                        refine eWI (kd_121 hL) (Nat.le_of_ble_eq_true rfl) h (fun S68 h => ?_)
                        exact eLeaf (θ := (fun (o : ST) => (mkM K R o))) h rfl
                      · exact eLeaf (θ := (fun (o : ST) => (mkM K R o))) h rfl
                    · refine eIF h (fun c69 h => ?_) (fun c69 h => ?_)
                      · refine eCwiV (kd_95 hL) (Nat.le_of_ble_eq_true rfl) (fun _ hv => E_X12_next_ok hn hL hv) h (fun v70 h => ?_)
                        refine eCwiV (kd_95 hL) (Nat.le_of_ble_eq_true rfl) (fun _ hv => E_X12_named_ok hn hL hv) h (fun v71 h => ?_)
                        refine eCwiV (kd_95 hL) (Nat.le_of_ble_eq_true rfl) (fun _ hv => E_X12_known_ok hn hL hv) h (fun v72 h => ?_)
                        refine eCwiV (kd_95 hL) (Nat.le_of_ble_eq_true rfl) (fun _ hv => E_X12_bounded_ok hn hL hv) h (fun v73 h => ?_)
                        refine eCwV (kd_95 hL) (Nat.le_of_ble_eq_true rfl) (fun _ hv => E_X12_comes_ok hn hL hv) h (fun S75 h => ?_)
                        refine eCwV (kd_95 hL) (Nat.le_of_ble_eq_true rfl) (fun _ hv => E_X12_notes_ok hn hL hv) h (fun S77 h => ?_)
                        refine eGI (kd_95 hL) (Nat.le_of_ble_eq_true rfl) ?_
                        refine eIF h (fun c78 h => ?_) (fun c78 h => ?_)
                        · refine eGR (kd_95 hL) (Nat.le_of_ble_eq_true rfl) (rd_95_40 hL) ?_
                          refine eGI (kd_95 hL) (Nat.le_of_ble_eq_true rfl) ?_
                          refine eWI (kd_122 hL) (Nat.le_of_ble_eq_true rfl) h (fun S79 h => ?_)
                          refine eGR (kd_95 hL) (Nat.le_of_ble_eq_true rfl) (rd_95_41 hL) ?_
                          refine eGI (kd_95 hL) (Nat.le_of_ble_eq_true rfl) ?_
                          refine eWI (kd_123 hL) (Nat.le_of_ble_eq_true rfl) h (fun S80 h => ?_)
                          exact eLeaf (θ := (fun (o : ST) => (mkM K R o))) h rfl
                        · exact eLeaf (θ := (fun (o : ST) => (mkM K R o))) h rfl
                      · refine eIF h (fun c81 h => ?_) (fun c81 h => ?_)
                        · refine eGR (kd_95 hL) (Nat.le_of_ble_eq_true rfl) (rd_95_25 hL) ?_
                          refine eGI (kd_95 hL) (Nat.le_of_ble_eq_true rfl) ?_
                          refine eRI (kd_107 hL) h (fun v82 h => ?_)
                          refine eJN (fun j87 fj87 => ∀ (S83 : ST), j87 S83 = some o → fj87 (mkM K R S83) = some (mkM K R o)) h ?_ ?_
                          · intro S83 h
                            refine eGI (kd_95 hL) (Nat.le_of_ble_eq_true rfl) ?_
                            refine eIF h (fun c84 h => ?_) (fun c84 h => ?_)
                            · refine eCwV (kd_95 hL) (Nat.le_of_ble_eq_true rfl) (fun _ hv => E_X12_tellTask_ok hn hL hv) h (fun S86 h => ?_)
                              exact eLeaf (θ := (fun (o : ST) => (mkM K R o))) h rfl
                            · exact eLeaf (θ := (fun (o : ST) => (mkM K R o))) h rfl
                          · intro j87 fj87 Jj87 h
                            refine eIF h (fun c88 h => ?_) (fun c88 h => ?_)
                            · refine eCwV (kd_95 hL) (Nat.le_of_ble_eq_true rfl) (fun _ hv => E_X12_fail_ok hn hL hv) h (fun S90 h => ?_)
                              exact Jj87 _ h
                            · exact Jj87 _ h
                        · refine eIF h (fun c91 h => ?_) (fun c91 h => ?_)
                          · exact Jj8 h
                          · refine eIF h (fun c92 h => ?_) (fun c92 h => ?_)
                            · exact Jj8 h
                            · exact Jj4 h
-- OnlyUpwardModel.read()I
set_option maxRecDepth 100000 in
set_option maxHeartbeats 4000000 in
def E_X12_read (n : Nat) (S : ST) : Option (Int32 × ST) :=
  lets (upI S 95 4 (S.1 95 2)) fun (S1 : ST) => (iter (fun (s2 : Int32 × ST) => if (s2.2.1 95 4) ≤ s2.1 then some (.inr s2.2) else (rd (s2.2.1 96) 2000 s2.1).bind fun v4 => (wr s2.2 97 2000 s2.1 (v4).toInt8.toInt32).bind fun S5 => some (.inl ((s2.1 + (1 : Int32)), S5))) n ((0 : Int32), S1)).bind fun (e2 : ST) => lets (upI e2 95 2 (0 : Int32)) fun (S6 : ST) => (E_X12_cut n S6 ).bind fun S8 => lets (upI S8 95 11 (0 : Int32)) fun (S9 : ST) => lets (upI S9 95 12 (0 : Int32)) fun (S10 : ST) => lets (upI S10 95 13 (0 : Int32)) fun (S11 : ST) => lets (upI S11 95 15 (0 : Int32)) fun (S12 : ST) => lets (upI S12 95 19 ((1 : Int32) - (S12.1 95 18))) fun (S13 : ST) => lets (upI S13 95 20 (0 : Int32)) fun (S14 : ST) => (iter (fun (s15 : Int32 × ST) => if (8 : Int32) ≤ s15.1 then some (.inr s15.2) else (wr s15.2 106 16 (((8 : Int32) * (s15.2.1 95 19)) + s15.1) (0 : Int32)).bind fun S17 => some (.inl ((s15.1 + (1 : Int32)), S17))) n ((0 : Int32), S14)).bind fun (e15 : ST) => (wr e15 107 2 (e15.1 95 19) (0 : Int32)).bind fun S18 => (wr S18 125 4 ((2 : Int32) * (S18.1 95 19)) (0 : Int32)).bind fun S19 => (wr S19 125 4 (((2 : Int32) * (S19.1 95 19)) + (1 : Int32)) (0 : Int32)).bind fun S20 => lets (upI S20 95 46 ((150 : Int32) * (S20.1 95 19))) fun (S21 : ST) => lets (upI S21 95 53 ((420 : Int32) * (S21.1 95 19))) fun (S22 : ST) => (iter (fun (s23 : ST) => if (s23.1 95 13) = 0 then (E_X12_is n s23 (0 : Int32)).bind fun v25 => if v25 = 0 then (E_X12_tell n s23 ).bind fun S28 => some (.inl S28) else some (.inr s23) else some (.inr s23)) n S22).bind fun (e23 : ST) => jn (fun (u29 : Int32) => lets (upI e23 95 17 u29) fun (S30 : ST) => if (S30.1 95 13) ≤ 0 then if (S30.1 95 15) ≤ 0 then lets (upI S30 95 18 (S30.1 95 19)) fun (S33 : ST) => lets (upI S33 95 62 (0 : Int32)) fun (S34 : ST) => (iter (fun (s35 : Int32 × ST) => if (3 : Int32) ≤ s35.1 then some (.inr s35.2) else (wr s35.2 155 3 s35.1 (-1 : Int32)).bind fun S37 => some (.inl ((s35.1 + (1 : Int32)), S37))) n ((0 : Int32), S34)).bind fun (e35 : ST) => some ((0 : Int32), e35) else some ((S30.1 95 15), S30) else some ((S30.1 95 13), S30)) fun j38 => if (e23.1 95 13) ≤ 0 then if (e23.1 95 15) ≤ 0 then j38 (-1 : Int32) else j38 (e23.1 95 16) else j38 (e23.1 95 14)
set_option maxRecDepth 100000 in
set_option maxHeartbeats 4000000 in
theorem E_X12_read_ok {n : Nat} (hn : 30000 ≤ n) {K : AK} {R : Nat → Nat → Option Nat} {S : ST} {tz en : Nat} (hL : Lay K R tz en) {o : (Int32 × ST)} (h : E_X12_read n S  = some o) : F_X12_read n (mkM K R S) 95 = some (o.1, mkM K R o.2) := by
  unfold E_X12_read at h
  unfold F_X12_read
  refine eGI (kd_95 hL) (Nat.le_of_ble_eq_true rfl) ?_
  refine ePI (kd_95 hL) (Nat.le_of_ble_eq_true rfl) h (fun S1 h => ?_)
  refine eLP (fun (s2 : Int32 × ST) => (s2.1, mkM K R s2.2)) (fun (e2 : ST) => mkM K R e2) h rfl ?_ ?_
  · intro s2 x2 h
    refine eGI (kd_95 hL) (Nat.le_of_ble_eq_true rfl) ?_
    refine eIF h (fun c3 h => ?_) (fun c3 h => ?_)
    · exact eLeaf (θ := (Sum.map (fun (s2 : Int32 × ST) => (s2.1, mkM K R s2.2)) (fun (e2 : ST) => mkM K R e2))) h rfl
    · refine eGR (kd_95 hL) (Nat.le_of_ble_eq_true rfl) (rd_95_3 hL) ?_
      refine eGR (kd_95 hL) (Nat.le_of_ble_eq_true rfl) (rd_95_1 hL) ?_
      refine eRB (kd_96 hL) h (fun v4 h => ?_)
      refine eWB (kd_97 hL) (Nat.le_of_ble_eq_true rfl) h (fun S5 h => ?_)
      exact eLeaf (θ := (Sum.map (fun (s2 : Int32 × ST) => (s2.1, mkM K R s2.2)) (fun (e2 : ST) => mkM K R e2))) h rfl
  · intro e2 h
    refine ePI (kd_95 hL) (Nat.le_of_ble_eq_true rfl) h (fun S6 h => ?_)
    refine eCwV (kd_95 hL) (Nat.le_of_ble_eq_true rfl) (fun _ hv => E_X12_cut_ok hn hL hv) h (fun S8 h => ?_)
    refine ePI (kd_95 hL) (Nat.le_of_ble_eq_true rfl) h (fun S9 h => ?_)
    refine ePI (kd_95 hL) (Nat.le_of_ble_eq_true rfl) h (fun S10 h => ?_)
    refine ePI (kd_95 hL) (Nat.le_of_ble_eq_true rfl) h (fun S11 h => ?_)
    refine ePI (kd_95 hL) (Nat.le_of_ble_eq_true rfl) h (fun S12 h => ?_)
    refine eGI (kd_95 hL) (Nat.le_of_ble_eq_true rfl) ?_
    refine ePI (kd_95 hL) (Nat.le_of_ble_eq_true rfl) h (fun S13 h => ?_)
    refine ePI (kd_95 hL) (Nat.le_of_ble_eq_true rfl) h (fun S14 h => ?_)
    refine eLP (fun (s15 : Int32 × ST) => (s15.1, mkM K R s15.2)) (fun (e15 : ST) => mkM K R e15) h rfl ?_ ?_
    · intro s15 x15 h
      refine eIF h (fun c16 h => ?_) (fun c16 h => ?_)
      · exact eLeaf (θ := (Sum.map (fun (s15 : Int32 × ST) => (s15.1, mkM K R s15.2)) (fun (e15 : ST) => mkM K R e15))) h rfl
      · refine eGR (kd_95 hL) (Nat.le_of_ble_eq_true rfl) (rd_95_24 hL) ?_
        refine eGI (kd_95 hL) (Nat.le_of_ble_eq_true rfl) ?_
        refine eWI (kd_106 hL) (Nat.le_of_ble_eq_true rfl) h (fun S17 h => ?_)
        exact eLeaf (θ := (Sum.map (fun (s15 : Int32 × ST) => (s15.1, mkM K R s15.2)) (fun (e15 : ST) => mkM K R e15))) h rfl
    · intro e15 h
      refine eGR (kd_95 hL) (Nat.le_of_ble_eq_true rfl) (rd_95_25 hL) ?_
      refine eGI (kd_95 hL) (Nat.le_of_ble_eq_true rfl) ?_
      refine eWI (kd_107 hL) (Nat.le_of_ble_eq_true rfl) h (fun S18 h => ?_)
      refine eGR (kd_95 hL) (Nat.le_of_ble_eq_true rfl) (rd_95_43 hL) ?_
      refine eGI (kd_95 hL) (Nat.le_of_ble_eq_true rfl) ?_
      refine eWI (kd_125 hL) (Nat.le_of_ble_eq_true rfl) h (fun S19 h => ?_)
      refine eGR (kd_95 hL) (Nat.le_of_ble_eq_true rfl) (rd_95_43 hL) ?_
      refine eGI (kd_95 hL) (Nat.le_of_ble_eq_true rfl) ?_
      refine eWI (kd_125 hL) (Nat.le_of_ble_eq_true rfl) h (fun S20 h => ?_)
      refine eGI (kd_95 hL) (Nat.le_of_ble_eq_true rfl) ?_
      refine ePI (kd_95 hL) (Nat.le_of_ble_eq_true rfl) h (fun S21 h => ?_)
      refine eGI (kd_95 hL) (Nat.le_of_ble_eq_true rfl) ?_
      refine ePI (kd_95 hL) (Nat.le_of_ble_eq_true rfl) h (fun S22 h => ?_)
      refine eLP (fun (s23 : ST) => mkM K R s23) (fun (e23 : ST) => mkM K R e23) h rfl ?_ ?_
      · intro s23 x23 h
        refine eGI (kd_95 hL) (Nat.le_of_ble_eq_true rfl) ?_
        refine eIF h (fun c24 h => ?_) (fun c24 h => ?_)
        · refine eCV (kd_95 hL) (Nat.le_of_ble_eq_true rfl) (fun _ hv => E_X12_is_ok hn hL hv) h (fun v25 h => ?_)
          refine eIF h (fun c26 h => ?_) (fun c26 h => ?_)
          · refine eCwV (kd_95 hL) (Nat.le_of_ble_eq_true rfl) (fun _ hv => E_X12_tell_ok hn hL hv) h (fun S28 h => ?_)
            exact eLeaf (θ := (Sum.map (fun (s23 : ST) => mkM K R s23) (fun (e23 : ST) => mkM K R e23))) h rfl
          · exact eLeaf (θ := (Sum.map (fun (s23 : ST) => mkM K R s23) (fun (e23 : ST) => mkM K R e23))) h rfl
        · exact eLeaf (θ := (Sum.map (fun (s23 : ST) => mkM K R s23) (fun (e23 : ST) => mkM K R e23))) h rfl
      · intro e23 h
        refine eGI (kd_95 hL) (Nat.le_of_ble_eq_true rfl) ?_
        refine eJN (fun j38 fj38 => ∀ (u29 : Int32), j38 u29 = some o → fj38 u29 = some (o.1, mkM K R o.2)) h ?_ ?_
        · intro u29 h
          refine ePI (kd_95 hL) (Nat.le_of_ble_eq_true rfl) h (fun S30 h => ?_)
          refine eGI (kd_95 hL) (Nat.le_of_ble_eq_true rfl) ?_
          refine eIF h (fun c31 h => ?_) (fun c31 h => ?_)
          · refine eGI (kd_95 hL) (Nat.le_of_ble_eq_true rfl) ?_
            refine eIF h (fun c32 h => ?_) (fun c32 h => ?_)
            · refine eGI (kd_95 hL) (Nat.le_of_ble_eq_true rfl) ?_
              refine ePI (kd_95 hL) (Nat.le_of_ble_eq_true rfl) h (fun S33 h => ?_)
              refine ePI (kd_95 hL) (Nat.le_of_ble_eq_true rfl) h (fun S34 h => ?_)
              refine eLP (fun (s35 : Int32 × ST) => (s35.1, mkM K R s35.2)) (fun (e35 : ST) => mkM K R e35) h rfl ?_ ?_
              · intro s35 x35 h
                refine eIF h (fun c36 h => ?_) (fun c36 h => ?_)
                · exact eLeaf (θ := (Sum.map (fun (s35 : Int32 × ST) => (s35.1, mkM K R s35.2)) (fun (e35 : ST) => mkM K R e35))) h rfl
                · refine eGR (kd_95 hL) (Nat.le_of_ble_eq_true rfl) (rd_95_88 hL) ?_
                  refine eWI (kd_155 hL) (Nat.le_of_ble_eq_true rfl) h (fun S37 h => ?_)
                  exact eLeaf (θ := (Sum.map (fun (s35 : Int32 × ST) => (s35.1, mkM K R s35.2)) (fun (e35 : ST) => mkM K R e35))) h rfl
              · intro e35 h
                exact eLeaf (θ := (fun (o : (Int32 × ST)) => (o.1, mkM K R o.2))) h rfl
            · refine eGI (kd_95 hL) (Nat.le_of_ble_eq_true rfl) ?_
              exact eLeaf (θ := (fun (o : (Int32 × ST)) => (o.1, mkM K R o.2))) h rfl
          · refine eGI (kd_95 hL) (Nat.le_of_ble_eq_true rfl) ?_
            exact eLeaf (θ := (fun (o : (Int32 × ST)) => (o.1, mkM K R o.2))) h rfl
        · intro j38 fj38 Jj38 h
          refine eIF h (fun c39 h => ?_) (fun c39 h => ?_)
          · refine eGI (kd_95 hL) (Nat.le_of_ble_eq_true rfl) ?_
            refine eIF h (fun c40 h => ?_) (fun c40 h => ?_)
            · exact Jj38 _ h
            · refine eGI (kd_95 hL) (Nat.le_of_ble_eq_true rfl) ?_
              exact Jj38 _ h
          · refine eGI (kd_95 hL) (Nat.le_of_ble_eq_true rfl) ?_
            exact Jj38 _ h
-- OnlyUpwardModel.place()I
set_option maxRecDepth 100000 in
set_option maxHeartbeats 4000000 in
def E_X12_place (n : Nat) (S : ST) : Option Int32 :=
  some (S.1 95 17)
set_option maxRecDepth 100000 in
set_option maxHeartbeats 4000000 in
theorem E_X12_place_ok {n : Nat} (hn : 30000 ≤ n) {K : AK} {R : Nat → Nat → Option Nat} {S : ST} {tz en : Nat} (hL : Lay K R tz en) {o : Int32} (h : E_X12_place n S  = some o) : F_X12_place n (mkM K R S) 95 = some o := by
  unfold E_X12_place at h
  unfold F_X12_place
  refine eGI (kd_95 hL) (Nat.le_of_ble_eq_true rfl) ?_
  exact eLeaf (θ := (fun (o : Int32) => o)) h rfl
-- OnlyUpwardModel.has(I)I
set_option maxRecDepth 100000 in
set_option maxHeartbeats 4000000 in
def E_X12_has (n : Nat) (S : ST) (a1 : Int32) : Option Int32 :=
  (rd (S.1 106) 16 (((8 : Int32) * (S.1 95 18)) + a1)).bind fun v1 => some v1
set_option maxRecDepth 100000 in
set_option maxHeartbeats 4000000 in
theorem E_X12_has_ok {n : Nat} (hn : 30000 ≤ n) {K : AK} {R : Nat → Nat → Option Nat} {S : ST} {a1 : Int32} {tz en : Nat} (hL : Lay K R tz en) {o : Int32} (h : E_X12_has n S a1 = some o) : F_X12_has n (mkM K R S) 95 a1 = some o := by
  unfold E_X12_has at h
  unfold F_X12_has
  refine eGR (kd_95 hL) (Nat.le_of_ble_eq_true rfl) (rd_95_24 hL) ?_
  refine eGI (kd_95 hL) (Nat.le_of_ble_eq_true rfl) ?_
  refine eRI (kd_106 hL) h (fun v1 h => ?_)
  exact eLeaf (θ := (fun (o : Int32) => o)) h rfl
-- OnlyUpwardModel.in(III)Z
set_option maxRecDepth 100000 in
set_option maxHeartbeats 4000000 in
def E_X12_in (n : Nat) (S : ST) (a0 : Int32) (a1 : Int32) (a2 : Int32) : Option Int32 :=
  if a0 < a1 then some (0 : Int32) else if a2 < a0 then some (0 : Int32) else some (1 : Int32)
set_option maxRecDepth 100000 in
set_option maxHeartbeats 4000000 in
theorem E_X12_in_ok {n : Nat} (hn : 30000 ≤ n) {K : AK} {R : Nat → Nat → Option Nat} {S : ST} {a0 : Int32} {a1 : Int32} {a2 : Int32} {tz en : Nat} (hL : Lay K R tz en) {o : Int32} (h : E_X12_in n S a0 a1 a2 = some o) : F_X12_in n (mkM K R S) a0 a1 a2 = some o := by
  unfold E_X12_in at h
  unfold F_X12_in
  refine eIF h (fun c1 h => ?_) (fun c1 h => ?_)
  · exact eLeaf (θ := (fun (o : Int32) => o)) h rfl
  · refine eIF h (fun c2 h => ?_) (fun c2 h => ?_)
    · exact eLeaf (θ := (fun (o : Int32) => o)) h rfl
    · exact eLeaf (θ := (fun (o : Int32) => o)) h rfl
-- OnlyUpwardModel.isPerson(I)Z
set_option maxRecDepth 100000 in
set_option maxHeartbeats 4000000 in
def E_X12_isPerson (n : Nat) (S : ST) (a1 : Int32) : Option Int32 :=
  (E_X12_has n S (1 : Int32)).bind fun v1 => (E_X12_in n S a1 (0 : Int32) (v1 - (1 : Int32))).bind fun v2 => gd (narrow .boolean (.int v2) = .int v2) (some v2)
set_option maxRecDepth 100000 in
set_option maxHeartbeats 4000000 in
theorem E_X12_isPerson_ok {n : Nat} (hn : 30000 ≤ n) {K : AK} {R : Nat → Nat → Option Nat} {S : ST} {a1 : Int32} {tz en : Nat} (hL : Lay K R tz en) {o : Int32} (h : E_X12_isPerson n S a1 = some o) : F_X12_isPerson n (mkM K R S) 95 a1 = some o := by
  unfold E_X12_isPerson at h
  unfold F_X12_isPerson
  refine eCV (kd_95 hL) (Nat.le_of_ble_eq_true rfl) (fun _ hv => E_X12_has_ok hn hL hv) h (fun v1 h => ?_)
  refine eCS (fun _ hv => E_X12_in_ok hn hL hv) h (fun v2 h => ?_)
  refine eGD h (fun c3 h => ?_)
  exact eLeaf (θ := (fun (o : Int32) => o)) h rfl
-- OnlyUpwardModel.isHour(I)Z
set_option maxRecDepth 100000 in
set_option maxHeartbeats 4000000 in
def E_X12_isHour (n : Nat) (S : ST) (a0 : Int32) : Option Int32 :=
  (E_X12_in n S a0 (0 : Int32) (23 : Int32)).bind fun v1 => gd (narrow .boolean (.int v1) = .int v1) (some v1)
set_option maxRecDepth 100000 in
set_option maxHeartbeats 4000000 in
theorem E_X12_isHour_ok {n : Nat} (hn : 30000 ≤ n) {K : AK} {R : Nat → Nat → Option Nat} {S : ST} {a0 : Int32} {tz en : Nat} (hL : Lay K R tz en) {o : Int32} (h : E_X12_isHour n S a0 = some o) : F_X12_isHour n (mkM K R S) a0 = some o := by
  unfold E_X12_isHour at h
  unfold F_X12_isHour
  refine eCS (fun _ hv => E_X12_in_ok hn hL hv) h (fun v1 h => ?_)
  refine eGD h (fun c2 h => ?_)
  exact eLeaf (θ := (fun (o : Int32) => o)) h rfl
-- OnlyUpwardModel.ageAt(II)I
set_option maxRecDepth 100000 in
set_option maxHeartbeats 4000000 in
def E_X12_ageAt (n : Nat) (S : ST) (a1 : Int32) (a2 : Int32) : Option Int32 :=
  (rd (S.1 108) 20 (((10 : Int32) * (S.1 95 18)) + a1)).bind fun v1 => (rd (S.1 109) 20 (((10 : Int32) * (S.1 95 18)) + a1)).bind fun v2 => jn (fun (u3 : Int32) => some (v1 + u3)) fun j4 => if a2 < v2 then j4 (0 : Int32) else j4 (1 : Int32)
set_option maxRecDepth 100000 in
set_option maxHeartbeats 4000000 in
theorem E_X12_ageAt_ok {n : Nat} (hn : 30000 ≤ n) {K : AK} {R : Nat → Nat → Option Nat} {S : ST} {a1 : Int32} {a2 : Int32} {tz en : Nat} (hL : Lay K R tz en) {o : Int32} (h : E_X12_ageAt n S a1 a2 = some o) : F_X12_ageAt n (mkM K R S) 95 a1 a2 = some o := by
  unfold E_X12_ageAt at h
  unfold F_X12_ageAt
  refine eGR (kd_95 hL) (Nat.le_of_ble_eq_true rfl) (rd_95_26 hL) ?_
  refine eGI (kd_95 hL) (Nat.le_of_ble_eq_true rfl) ?_
  refine eRI (kd_108 hL) h (fun v1 h => ?_)
  refine eGR (kd_95 hL) (Nat.le_of_ble_eq_true rfl) (rd_95_27 hL) ?_
  refine eGI (kd_95 hL) (Nat.le_of_ble_eq_true rfl) ?_
  refine eRI (kd_109 hL) h (fun v2 h => ?_)
  refine eJN (fun j4 fj4 => ∀ (u3 : Int32), j4 u3 = some o → fj4 u3 = some o) h ?_ ?_
  · intro u3 h
    exact eLeaf (θ := (fun (o : Int32) => o)) h rfl
  · intro j4 fj4 Jj4 h
    refine eIF h (fun c5 h => ?_) (fun c5 h => ?_)
    · exact Jj4 _ h
    · exact Jj4 _ h
-- OnlyUpwardModel.age(II)I
set_option maxRecDepth 100000 in
set_option maxHeartbeats 4000000 in
def E_X12_age (n : Nat) (S : ST) (a1 : Int32) (a2 : Int32) : Option Int32 :=
  (E_X12_isPerson n S a1).bind fun v1 => if v1 = 0 then some (-1 : Int32) else (E_X12_isHour n S a2).bind fun v3 => if v3 = 0 then some (-1 : Int32) else (E_X12_ageAt n S a1 a2).bind fun v5 => some v5
set_option maxRecDepth 100000 in
set_option maxHeartbeats 4000000 in
theorem E_X12_age_ok {n : Nat} (hn : 30000 ≤ n) {K : AK} {R : Nat → Nat → Option Nat} {S : ST} {a1 : Int32} {a2 : Int32} {tz en : Nat} (hL : Lay K R tz en) {o : Int32} (h : E_X12_age n S a1 a2 = some o) : F_X12_age n (mkM K R S) 95 a1 a2 = some o := by
  unfold E_X12_age at h
  unfold F_X12_age
  refine eCV (kd_95 hL) (Nat.le_of_ble_eq_true rfl) (fun _ hv => E_X12_isPerson_ok hn hL hv) h (fun v1 h => ?_)
  refine eIF h (fun c2 h => ?_) (fun c2 h => ?_)
  · exact eLeaf (θ := (fun (o : Int32) => o)) h rfl
  · refine eCS (fun _ hv => E_X12_isHour_ok hn hL hv) h (fun v3 h => ?_)
    refine eIF h (fun c4 h => ?_) (fun c4 h => ?_)
    · exact eLeaf (θ := (fun (o : Int32) => o)) h rfl
    · refine eCV (kd_95 hL) (Nat.le_of_ble_eq_true rfl) (fun _ hv => E_X12_ageAt_ok hn hL hv) h (fun v5 h => ?_)
      exact eLeaf (θ := (fun (o : Int32) => o)) h rfl
-- OnlyUpwardModel.isDead(I)Z
set_option maxRecDepth 100000 in
set_option maxHeartbeats 4000000 in
def E_X12_isDead (n : Nat) (S : ST) (a1 : Int32) : Option Int32 :=
  if (((S.1 95 61) >>> (a1 &&& 31)) &&& (1 : Int32)) = (1 : Int32) then some (1 : Int32) else some (0 : Int32)
set_option maxRecDepth 100000 in
set_option maxHeartbeats 4000000 in
theorem E_X12_isDead_ok {n : Nat} (hn : 30000 ≤ n) {K : AK} {R : Nat → Nat → Option Nat} {S : ST} {a1 : Int32} {tz en : Nat} (hL : Lay K R tz en) {o : Int32} (h : E_X12_isDead n S a1 = some o) : F_X12_isDead n (mkM K R S) 95 a1 = some o := by
  unfold E_X12_isDead at h
  unfold F_X12_isDead
  refine eGI (kd_95 hL) (Nat.le_of_ble_eq_true rfl) ?_
  refine eIF h (fun c1 h => ?_) (fun c1 h => ?_)
  · exact eLeaf (θ := (fun (o : Int32) => o)) h rfl
  · exact eLeaf (θ := (fun (o : Int32) => o)) h rfl
-- OnlyUpwardModel.placeOf(II)I
set_option maxRecDepth 100000 in
set_option maxHeartbeats 4000000 in
def E_X12_placeOf (n : Nat) (S : ST) (a1 : Int32) (a2 : Int32) : Option Int32 :=
  (E_X12_isDead n S a1).bind fun v1 => if v1 = 0 then (E_X12_has n S (0 : Int32)).bind fun v3 => if v3 = 0 then some (-2 : Int32) else (iter (fun (s5 : Int32 × Int32) => (E_X12_has n S (4 : Int32)).bind fun v6 => if v6 ≤ s5.2 then some (.inr s5.1) else (rd (S.1 113) 40 (((20 : Int32) * (S.1 95 18)) + s5.2)).bind fun v8 => jn (fun (u9 : Int32) => some (.inl (u9, (s5.2 + (1 : Int32))))) fun j10 => if v8 = a1 then (rd (S.1 115) 40 (((20 : Int32) * (S.1 95 18)) + s5.2)).bind fun v12 => (rd (S.1 116) 40 (((20 : Int32) * (S.1 95 18)) + s5.2)).bind fun v13 => (E_X12_in n S a2 v12 v13).bind fun v14 => if v14 = 0 then j10 s5.1 else (rd (S.1 114) 40 (((20 : Int32) * (S.1 95 18)) + s5.2)).bind fun v16 => j10 v16 else j10 s5.1) n ((0 : Int32), (0 : Int32))).bind fun (e5 : Int32) => some e5 else some (-2 : Int32)
set_option maxRecDepth 100000 in
set_option maxHeartbeats 4000000 in
theorem E_X12_placeOf_ok {n : Nat} (hn : 30000 ≤ n) {K : AK} {R : Nat → Nat → Option Nat} {S : ST} {a1 : Int32} {a2 : Int32} {tz en : Nat} (hL : Lay K R tz en) {o : Int32} (h : E_X12_placeOf n S a1 a2 = some o) : F_X12_placeOf n (mkM K R S) 95 a1 a2 = some o := by
  unfold E_X12_placeOf at h
  unfold F_X12_placeOf
  refine eCV (kd_95 hL) (Nat.le_of_ble_eq_true rfl) (fun _ hv => E_X12_isDead_ok hn hL hv) h (fun v1 h => ?_)
  refine eIF h (fun c2 h => ?_) (fun c2 h => ?_)
  · refine eCV (kd_95 hL) (Nat.le_of_ble_eq_true rfl) (fun _ hv => E_X12_has_ok hn hL hv) h (fun v3 h => ?_)
    refine eIF h (fun c4 h => ?_) (fun c4 h => ?_)
    · exact eLeaf (θ := (fun (o : Int32) => o)) h rfl
    · refine eLP (fun (s5 : Int32 × Int32) => s5) (fun (e5 : Int32) => e5) h rfl ?_ ?_
      · intro s5 x5 h
        refine eCV (kd_95 hL) (Nat.le_of_ble_eq_true rfl) (fun _ hv => E_X12_has_ok hn hL hv) h (fun v6 h => ?_)
        refine eIF h (fun c7 h => ?_) (fun c7 h => ?_)
        · exact eLeaf (θ := (Sum.map (fun (s5 : Int32 × Int32) => s5) (fun (e5 : Int32) => e5))) h rfl
        · refine eGI (kd_95 hL) (Nat.le_of_ble_eq_true rfl) ?_
          refine eGR (kd_95 hL) (Nat.le_of_ble_eq_true rfl) (rd_95_31 hL) ?_
          refine eRI (kd_113 hL) h (fun v8 h => ?_)
          refine eJN (fun j10 fj10 => ∀ (u9 : Int32), j10 u9 = some x5 → fj10 u9 = some (Sum.map (fun (s5 : Int32 × Int32) => s5) (fun (e5 : Int32) => e5) x5)) h ?_ ?_
          · intro u9 h
            exact eLeaf (θ := (Sum.map (fun (s5 : Int32 × Int32) => s5) (fun (e5 : Int32) => e5))) h rfl
          · intro j10 fj10 Jj10 h
            refine eIF h (fun c11 h => ?_) (fun c11 h => ?_)
            · refine eGR (kd_95 hL) (Nat.le_of_ble_eq_true rfl) (rd_95_33 hL) ?_
              refine eRI (kd_115 hL) h (fun v12 h => ?_)
              refine eGR (kd_95 hL) (Nat.le_of_ble_eq_true rfl) (rd_95_34 hL) ?_
              refine eRI (kd_116 hL) h (fun v13 h => ?_)
              refine eCS (fun _ hv => E_X12_in_ok hn hL hv) h (fun v14 h => ?_)
              refine eIF h (fun c15 h => ?_) (fun c15 h => ?_)
              · exact Jj10 _ h
              · refine eGR (kd_95 hL) (Nat.le_of_ble_eq_true rfl) (rd_95_32 hL) ?_
                refine eRI (kd_114 hL) h (fun v16 h => ?_)
                exact Jj10 _ h
            · exact Jj10 _ h
      · intro e5 h
        exact eLeaf (θ := (fun (o : Int32) => o)) h rfl
  · exact eLeaf (θ := (fun (o : Int32) => o)) h rfl
-- OnlyUpwardModel.where(II)I
set_option maxRecDepth 100000 in
set_option maxHeartbeats 4000000 in
def E_X12_where (n : Nat) (S : ST) (a1 : Int32) (a2 : Int32) : Option Int32 :=
  (E_X12_isPerson n S a1).bind fun v1 => if v1 = 0 then some (-1 : Int32) else (E_X12_isHour n S a2).bind fun v3 => if v3 = 0 then some (-1 : Int32) else (E_X12_placeOf n S a1 a2).bind fun v5 => some v5
set_option maxRecDepth 100000 in
set_option maxHeartbeats 4000000 in
theorem E_X12_where_ok {n : Nat} (hn : 30000 ≤ n) {K : AK} {R : Nat → Nat → Option Nat} {S : ST} {a1 : Int32} {a2 : Int32} {tz en : Nat} (hL : Lay K R tz en) {o : Int32} (h : E_X12_where n S a1 a2 = some o) : F_X12_where n (mkM K R S) 95 a1 a2 = some o := by
  unfold E_X12_where at h
  unfold F_X12_where
  refine eCV (kd_95 hL) (Nat.le_of_ble_eq_true rfl) (fun _ hv => E_X12_isPerson_ok hn hL hv) h (fun v1 h => ?_)
  refine eIF h (fun c2 h => ?_) (fun c2 h => ?_)
  · exact eLeaf (θ := (fun (o : Int32) => o)) h rfl
  · refine eCS (fun _ hv => E_X12_isHour_ok hn hL hv) h (fun v3 h => ?_)
    refine eIF h (fun c4 h => ?_) (fun c4 h => ?_)
    · exact eLeaf (θ := (fun (o : Int32) => o)) h rfl
    · refine eCV (kd_95 hL) (Nat.le_of_ble_eq_true rfl) (fun _ hv => E_X12_placeOf_ok hn hL hv) h (fun v5 h => ?_)
      exact eLeaf (θ := (fun (o : Int32) => o)) h rfl
-- OnlyUpwardModel.isPlace(I)Z
set_option maxRecDepth 100000 in
set_option maxHeartbeats 4000000 in
def E_X12_isPlace (n : Nat) (S : ST) (a1 : Int32) : Option Int32 :=
  (E_X12_has n S (0 : Int32)).bind fun v1 => (E_X12_in n S a1 (0 : Int32) (v1 - (1 : Int32))).bind fun v2 => gd (narrow .boolean (.int v2) = .int v2) (some v2)
set_option maxRecDepth 100000 in
set_option maxHeartbeats 4000000 in
theorem E_X12_isPlace_ok {n : Nat} (hn : 30000 ≤ n) {K : AK} {R : Nat → Nat → Option Nat} {S : ST} {a1 : Int32} {tz en : Nat} (hL : Lay K R tz en) {o : Int32} (h : E_X12_isPlace n S a1 = some o) : F_X12_isPlace n (mkM K R S) 95 a1 = some o := by
  unfold E_X12_isPlace at h
  unfold F_X12_isPlace
  refine eCV (kd_95 hL) (Nat.le_of_ble_eq_true rfl) (fun _ hv => E_X12_has_ok hn hL hv) h (fun v1 h => ?_)
  refine eCS (fun _ hv => E_X12_in_ok hn hL hv) h (fun v2 h => ?_)
  refine eGD h (fun c3 h => ?_)
  exact eLeaf (θ := (fun (o : Int32) => o)) h rfl
-- OnlyUpwardModel.isThin(II)Z
set_option maxRecDepth 100000 in
set_option maxHeartbeats 4000000 in
def E_X12_isThin (n : Nat) (S : ST) (a1 : Int32) (a2 : Int32) : Option Int32 :=
  (iter (fun (s1 : Int32) => (E_X12_has n S (3 : Int32)).bind fun v2 => if v2 ≤ s1 then some (.inr (.inl ())) else (rd (S.1 111) 16 (((8 : Int32) * (S.1 95 18)) + s1)).bind fun v4 => jn ((rd (S.1 111) 16 (((8 : Int32) * (S.1 95 18)) + s1)).bind fun v5 => jn (some (.inl (s1 + (1 : Int32)))) fun j6 => if v5 = a2 then (rd (S.1 112) 16 (((8 : Int32) * (S.1 95 18)) + s1)).bind fun v8 => if v8 = a1 then some (.inr (.inr (1 : Int32))) else j6 else j6) fun j10 => if v4 = a1 then (rd (S.1 112) 16 (((8 : Int32) * (S.1 95 18)) + s1)).bind fun v12 => if v12 = a2 then some (.inr (.inr (1 : Int32))) else j10 else j10) n (0 : Int32)).bind fun (z1 : (Unit) ⊕ Int32) => Sum.elim (fun (e1 : Unit) => some (0 : Int32)) (fun (v : Int32) => some v) z1
set_option maxRecDepth 100000 in
set_option maxHeartbeats 4000000 in
theorem E_X12_isThin_ok {n : Nat} (hn : 30000 ≤ n) {K : AK} {R : Nat → Nat → Option Nat} {S : ST} {a1 : Int32} {a2 : Int32} {tz en : Nat} (hL : Lay K R tz en) {o : Int32} (h : E_X12_isThin n S a1 a2 = some o) : F_X12_isThin n (mkM K R S) 95 a1 a2 = some o := by
  unfold E_X12_isThin at h
  unfold F_X12_isThin
  refine eLP (fun (s1 : Int32) => s1) (Sum.map (fun (e1 : Unit) => e1) (fun (v : Int32) => v)) h rfl ?_ ?_
  · intro s1 x1 h
    refine eCV (kd_95 hL) (Nat.le_of_ble_eq_true rfl) (fun _ hv => E_X12_has_ok hn hL hv) h (fun v2 h => ?_)
    refine eIF h (fun c3 h => ?_) (fun c3 h => ?_)
    · exact eLeaf (θ := (Sum.map (fun (s1 : Int32) => s1) (Sum.map (fun (e1 : Unit) => e1) (fun (v : Int32) => v)))) h rfl
    · refine eGI (kd_95 hL) (Nat.le_of_ble_eq_true rfl) ?_
      refine eGR (kd_95 hL) (Nat.le_of_ble_eq_true rfl) (rd_95_29 hL) ?_
      refine eRI (kd_111 hL) h (fun v4 h => ?_)
      refine eJN (fun j10 fj10 => j10 = some x1 → fj10 = some (Sum.map (fun (s1 : Int32) => s1) (Sum.map (fun (e1 : Unit) => e1) (fun (v : Int32) => v)) x1)) h ?_ ?_
      · intro h
        refine eGR (kd_95 hL) (Nat.le_of_ble_eq_true rfl) (rd_95_29 hL) ?_
        refine eRI (kd_111 hL) h (fun v5 h => ?_)
        refine eJN (fun j6 fj6 => j6 = some x1 → fj6 = some (Sum.map (fun (s1 : Int32) => s1) (Sum.map (fun (e1 : Unit) => e1) (fun (v : Int32) => v)) x1)) h ?_ ?_
        · intro h
          exact eLeaf (θ := (Sum.map (fun (s1 : Int32) => s1) (Sum.map (fun (e1 : Unit) => e1) (fun (v : Int32) => v)))) h rfl
        · intro j6 fj6 Jj6 h
          refine eIF h (fun c7 h => ?_) (fun c7 h => ?_)
          · refine eGR (kd_95 hL) (Nat.le_of_ble_eq_true rfl) (rd_95_30 hL) ?_
            refine eRI (kd_112 hL) h (fun v8 h => ?_)
            refine eIF h (fun c9 h => ?_) (fun c9 h => ?_)
            · exact eLeaf (θ := (Sum.map (fun (s1 : Int32) => s1) (Sum.map (fun (e1 : Unit) => e1) (fun (v : Int32) => v)))) h rfl
            · exact Jj6 h
          · exact Jj6 h
      · intro j10 fj10 Jj10 h
        refine eIF h (fun c11 h => ?_) (fun c11 h => ?_)
        · refine eGR (kd_95 hL) (Nat.le_of_ble_eq_true rfl) (rd_95_30 hL) ?_
          refine eRI (kd_112 hL) h (fun v12 h => ?_)
          refine eIF h (fun c13 h => ?_) (fun c13 h => ?_)
          · exact eLeaf (θ := (Sum.map (fun (s1 : Int32) => s1) (Sum.map (fun (e1 : Unit) => e1) (fun (v : Int32) => v)))) h rfl
          · exact Jj10 h
        · exact Jj10 h
  · intro z1 h
    rcases z1 with e1 | v
    · have h := sum_inl h
      exact eLeaf (θ := (fun (o : Int32) => o)) h rfl
    · have h := sum_inr h
      exact eLeaf (θ := (fun (o : Int32) => o)) h rfl
-- OnlyUpwardModel.earshotOf(II)I
set_option maxRecDepth 100000 in
set_option maxHeartbeats 4000000 in
def E_X12_earshotOf (n : Nat) (S : ST) (a1 : Int32) (a2 : Int32) : Option Int32 :=
  (iter (fun (s1 : Int32 × Int32) => (E_X12_has n S (1 : Int32)).bind fun v2 => if v2 ≤ s1.2 then some (.inr s1.1) else (E_X12_placeOf n S s1.2 a2).bind fun v4 => jn (fun (u5 : Int32) => some (.inl (u5, (s1.2 + (1 : Int32))))) fun j6 => if v4 < 0 then j6 s1.1 else jn (j6 (s1.1 ||| ((1 : Int32) <<< (s1.2 &&& 31)))) fun j8 => if v4 = a1 then j8 else (E_X12_isThin n S v4 a1).bind fun v10 => if v10 = 0 then j6 s1.1 else j8) n ((0 : Int32), (0 : Int32))).bind fun (e1 : Int32) => some e1
set_option maxRecDepth 100000 in
set_option maxHeartbeats 4000000 in
theorem E_X12_earshotOf_ok {n : Nat} (hn : 30000 ≤ n) {K : AK} {R : Nat → Nat → Option Nat} {S : ST} {a1 : Int32} {a2 : Int32} {tz en : Nat} (hL : Lay K R tz en) {o : Int32} (h : E_X12_earshotOf n S a1 a2 = some o) : F_X12_earshotOf n (mkM K R S) 95 a1 a2 = some o := by
  unfold E_X12_earshotOf at h
  unfold F_X12_earshotOf
  refine eLP (fun (s1 : Int32 × Int32) => s1) (fun (e1 : Int32) => e1) h rfl ?_ ?_
  · intro s1 x1 h
    refine eCV (kd_95 hL) (Nat.le_of_ble_eq_true rfl) (fun _ hv => E_X12_has_ok hn hL hv) h (fun v2 h => ?_)
    refine eIF h (fun c3 h => ?_) (fun c3 h => ?_)
    · exact eLeaf (θ := (Sum.map (fun (s1 : Int32 × Int32) => s1) (fun (e1 : Int32) => e1))) h rfl
    · refine eCV (kd_95 hL) (Nat.le_of_ble_eq_true rfl) (fun _ hv => E_X12_placeOf_ok hn hL hv) h (fun v4 h => ?_)
      refine eJN (fun j6 fj6 => ∀ (u5 : Int32), j6 u5 = some x1 → fj6 u5 = some (Sum.map (fun (s1 : Int32 × Int32) => s1) (fun (e1 : Int32) => e1) x1)) h ?_ ?_
      · intro u5 h
        exact eLeaf (θ := (Sum.map (fun (s1 : Int32 × Int32) => s1) (fun (e1 : Int32) => e1))) h rfl
      · intro j6 fj6 Jj6 h
        refine eIF h (fun c7 h => ?_) (fun c7 h => ?_)
        · exact Jj6 _ h
        · refine eJN (fun j8 fj8 => j8 = some x1 → fj8 = some (Sum.map (fun (s1 : Int32 × Int32) => s1) (fun (e1 : Int32) => e1) x1)) h ?_ ?_
          · intro h
            exact Jj6 _ h
          · intro j8 fj8 Jj8 h
            refine eIF h (fun c9 h => ?_) (fun c9 h => ?_)
            · exact Jj8 h
            · refine eCV (kd_95 hL) (Nat.le_of_ble_eq_true rfl) (fun _ hv => E_X12_isThin_ok hn hL hv) h (fun v10 h => ?_)
              refine eIF h (fun c11 h => ?_) (fun c11 h => ?_)
              · exact Jj6 _ h
              · exact Jj8 h
  · intro e1 h
    exact eLeaf (θ := (fun (o : Int32) => o)) h rfl
-- OnlyUpwardModel.earshot(II)I
set_option maxRecDepth 100000 in
set_option maxHeartbeats 4000000 in
def E_X12_earshot (n : Nat) (S : ST) (a1 : Int32) (a2 : Int32) : Option Int32 :=
  (E_X12_isPlace n S a1).bind fun v1 => if v1 = 0 then some (-1 : Int32) else (E_X12_isHour n S a2).bind fun v3 => if v3 = 0 then some (-1 : Int32) else (E_X12_earshotOf n S a1 a2).bind fun v5 => some v5
set_option maxRecDepth 100000 in
set_option maxHeartbeats 4000000 in
theorem E_X12_earshot_ok {n : Nat} (hn : 30000 ≤ n) {K : AK} {R : Nat → Nat → Option Nat} {S : ST} {a1 : Int32} {a2 : Int32} {tz en : Nat} (hL : Lay K R tz en) {o : Int32} (h : E_X12_earshot n S a1 a2 = some o) : F_X12_earshot n (mkM K R S) 95 a1 a2 = some o := by
  unfold E_X12_earshot at h
  unfold F_X12_earshot
  refine eCV (kd_95 hL) (Nat.le_of_ble_eq_true rfl) (fun _ hv => E_X12_isPlace_ok hn hL hv) h (fun v1 h => ?_)
  refine eIF h (fun c2 h => ?_) (fun c2 h => ?_)
  · exact eLeaf (θ := (fun (o : Int32) => o)) h rfl
  · refine eCS (fun _ hv => E_X12_isHour_ok hn hL hv) h (fun v3 h => ?_)
    refine eIF h (fun c4 h => ?_) (fun c4 h => ?_)
    · exact eLeaf (θ := (fun (o : Int32) => o)) h rfl
    · refine eCV (kd_95 hL) (Nat.le_of_ble_eq_true rfl) (fun _ hv => E_X12_earshotOf_ok hn hL hv) h (fun v5 h => ?_)
      exact eLeaf (θ := (fun (o : Int32) => o)) h rfl
-- OnlyUpwardModel.crowdAt(II)I
set_option maxRecDepth 100000 in
set_option maxHeartbeats 4000000 in
def E_X12_crowdAt (n : Nat) (S : ST) (a1 : Int32) (a2 : Int32) : Option Int32 :=
  (iter (fun (s1 : Int32 × Int32) => (E_X12_has n S (1 : Int32)).bind fun v2 => if v2 ≤ s1.2 then some (.inr s1.1) else (E_X12_placeOf n S s1.2 a2).bind fun v4 => jn (fun (u5 : Int32) => some (.inl (u5, (s1.2 + (1 : Int32))))) fun j6 => if v4 = a1 then j6 (s1.1 ||| ((1 : Int32) <<< (s1.2 &&& 31))) else j6 s1.1) n ((0 : Int32), (0 : Int32))).bind fun (e1 : Int32) => some e1
set_option maxRecDepth 100000 in
set_option maxHeartbeats 4000000 in
theorem E_X12_crowdAt_ok {n : Nat} (hn : 30000 ≤ n) {K : AK} {R : Nat → Nat → Option Nat} {S : ST} {a1 : Int32} {a2 : Int32} {tz en : Nat} (hL : Lay K R tz en) {o : Int32} (h : E_X12_crowdAt n S a1 a2 = some o) : F_X12_crowdAt n (mkM K R S) 95 a1 a2 = some o := by
  unfold E_X12_crowdAt at h
  unfold F_X12_crowdAt
  refine eLP (fun (s1 : Int32 × Int32) => s1) (fun (e1 : Int32) => e1) h rfl ?_ ?_
  · intro s1 x1 h
    refine eCV (kd_95 hL) (Nat.le_of_ble_eq_true rfl) (fun _ hv => E_X12_has_ok hn hL hv) h (fun v2 h => ?_)
    refine eIF h (fun c3 h => ?_) (fun c3 h => ?_)
    · exact eLeaf (θ := (Sum.map (fun (s1 : Int32 × Int32) => s1) (fun (e1 : Int32) => e1))) h rfl
    · refine eCV (kd_95 hL) (Nat.le_of_ble_eq_true rfl) (fun _ hv => E_X12_placeOf_ok hn hL hv) h (fun v4 h => ?_)
      refine eJN (fun j6 fj6 => ∀ (u5 : Int32), j6 u5 = some x1 → fj6 u5 = some (Sum.map (fun (s1 : Int32 × Int32) => s1) (fun (e1 : Int32) => e1) x1)) h ?_ ?_
      · intro u5 h
        exact eLeaf (θ := (Sum.map (fun (s1 : Int32 × Int32) => s1) (fun (e1 : Int32) => e1))) h rfl
      · intro j6 fj6 Jj6 h
        refine eIF h (fun c7 h => ?_) (fun c7 h => ?_)
        · exact Jj6 _ h
        · exact Jj6 _ h
  · intro e1 h
    exact eLeaf (θ := (fun (o : Int32) => o)) h rfl
-- OnlyUpwardModel.bits(I)I
set_option maxRecDepth 100000 in
set_option maxHeartbeats 4000000 in
def E_X12_bits (n : Nat) (S : ST) (a0 : Int32) : Option Int32 :=
  (iter (fun (s1 : Int32 × Int32) => if (10 : Int32) ≤ s1.2 then some (.inr s1.1) else lets (s1.1 + ((a0 >>> (s1.2 &&& 31)) &&& (1 : Int32))) fun (w3 : Int32) => some (.inl (w3, (s1.2 + (1 : Int32))))) n ((0 : Int32), (0 : Int32))).bind fun (e1 : Int32) => some e1
set_option maxRecDepth 100000 in
set_option maxHeartbeats 4000000 in
theorem E_X12_bits_ok {n : Nat} (hn : 30000 ≤ n) {K : AK} {R : Nat → Nat → Option Nat} {S : ST} {a0 : Int32} {tz en : Nat} (hL : Lay K R tz en) {o : Int32} (h : E_X12_bits n S a0 = some o) : F_X12_bits n (mkM K R S) a0 = some o := by
  unfold E_X12_bits at h
  unfold F_X12_bits
  refine eLP (fun (s1 : Int32 × Int32) => s1) (fun (e1 : Int32) => e1) h rfl ?_ ?_
  · intro s1 x1 h
    refine eIF h (fun c2 h => ?_) (fun c2 h => ?_)
    · exact eLeaf (θ := (Sum.map (fun (s1 : Int32 × Int32) => s1) (fun (e1 : Int32) => e1))) h rfl
    · refine eLT h (fun w3 h => ?_)
      exact eLeaf (θ := (Sum.map (fun (s1 : Int32 × Int32) => s1) (fun (e1 : Int32) => e1))) h rfl
  · intro e1 h
    exact eLeaf (θ := (fun (o : Int32) => o)) h rfl
