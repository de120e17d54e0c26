-- OnlyUpwardModel.hold(I)Z
set_option maxRecDepth 100000 in
set_option maxHeartbeats 4000000 in
def E_X12_hold (n : Nat) (S : ST) (a1 : Int32) : Option (Int32 × ST) :=
  (E_X12_in n S a1 (0 : Int32) (2 : Int32)).bind fun v1 => if v1 = 0 then some ((0 : Int32), S) else (wr S 155 3 a1 (S.1 95 62)).bind fun S3 => (iter (fun (s4 : Int32 × ST) => if (s4.2.1 95 62) ≤ s4.1 then some (.inr s4.2) else (rd (s4.2.1 139) 30 s4.1).bind fun v6 => (wr s4.2 156 90 (((30 : Int32) * a1) + s4.1) v6).bind fun S7 => (rd (S7.1 140) 30 s4.1).bind fun v8 => (wr S7 157 90 (((30 : Int32) * a1) + s4.1) v8).bind fun S9 => (rd (S9.1 141) 30 s4.1).bind fun v10 => (wr S9 158 90 (((30 : Int32) * a1) + s4.1) v10).bind fun S11 => (rd (S11.1 142) 30 s4.1).bind fun v12 => (wr S11 159 90 (((30 : Int32) * a1) + s4.1) v12).bind fun S13 => (rd (S13.1 143) 30 s4.1).bind fun v14 => (wr S13 160 90 (((30 : Int32) * a1) + s4.1) v14).bind fun S15 => some (.inl ((s4.1 + (1 : Int32)), S15))) n ((0 : Int32), S3)).bind fun (e4 : ST) => some ((1 : Int32), e4)
set_option maxRecDepth 100000 in
set_option maxHeartbeats 4000000 in
theorem E_X12_hold_ok {n : Nat} (hn : 30000 ≤ n) {K : AK} {R : Nat → Nat → Option Nat} {S : ST} {a1 : Int32} {tz en : Nat} (hL : Lay K R tz en) {o : (Int32 × ST)} (h : E_X12_hold n S a1 = some o) : F_X12_hold n (mkM K R S) 95 a1 = some (o.1, mkM K R o.2) := by
  unfold E_X12_hold at h
  unfold F_X12_hold
  refine eCS (fun _ hv => E_X12_in_ok hn hL hv) h (fun v1 h => ?_)
  refine eIF h (fun c2 h => ?_) (fun c2 h => ?_)
  · exact eLeaf (θ := (fun (o : (Int32 × ST)) => (o.1, mkM K R o.2))) h rfl
  · refine eGR (kd_95 hL) (Nat.le_of_ble_eq_true rfl) (rd_95_88 hL) ?_
    refine eGI (kd_95 hL) (Nat.le_of_ble_eq_true rfl) ?_
    refine eWI (kd_155 hL) (Nat.le_of_ble_eq_true rfl) h (fun S3 h => ?_)
    refine eLP (fun (s4 : Int32 × ST) => (s4.1, mkM K R s4.2)) (fun (e4 : ST) => mkM K R e4) h rfl ?_ ?_
    · intro s4 x4 h
      refine eGI (kd_95 hL) (Nat.le_of_ble_eq_true rfl) ?_
      refine eIF h (fun c5 h => ?_) (fun c5 h => ?_)
      · exact eLeaf (θ := (Sum.map (fun (s4 : Int32 × ST) => (s4.1, mkM K R s4.2)) (fun (e4 : ST) => mkM K R e4))) h rfl
      · refine eGR (kd_95 hL) (Nat.le_of_ble_eq_true rfl) (rd_95_89 hL) ?_
        refine eGR (kd_95 hL) (Nat.le_of_ble_eq_true rfl) (rd_95_63 hL) ?_
        refine eRI (kd_139 hL) h (fun v6 h => ?_)
        refine eWI (kd_156 hL) (Nat.le_of_ble_eq_true rfl) h (fun S7 h => ?_)
        refine eGR (kd_95 hL) (Nat.le_of_ble_eq_true rfl) (rd_95_90 hL) ?_
        refine eGR (kd_95 hL) (Nat.le_of_ble_eq_true rfl) (rd_95_64 hL) ?_
        refine eRI (kd_140 hL) h (fun v8 h => ?_)
        refine eWI (kd_157 hL) (Nat.le_of_ble_eq_true rfl) h (fun S9 h => ?_)
        refine eGR (kd_95 hL) (Nat.le_of_ble_eq_true rfl) (rd_95_91 hL) ?_
        refine eGR (kd_95 hL) (Nat.le_of_ble_eq_true rfl) (rd_95_65 hL) ?_
        refine eRI (kd_141 hL) h (fun v10 h => ?_)
        refine eWI (kd_158 hL) (Nat.le_of_ble_eq_true rfl) h (fun S11 h => ?_)
        refine eGR (kd_95 hL) (Nat.le_of_ble_eq_true rfl) (rd_95_92 hL) ?_
        refine eGR (kd_95 hL) (Nat.le_of_ble_eq_true rfl) (rd_95_66 hL) ?_
        refine eRI (kd_142 hL) h (fun v12 h => ?_)
        refine eWI (kd_159 hL) (Nat.le_of_ble_eq_true rfl) h (fun S13 h => ?_)
        refine eGR (kd_95 hL) (Nat.le_of_ble_eq_true rfl) (rd_95_93 hL) ?_
        refine eGR (kd_95 hL) (Nat.le_of_ble_eq_true rfl) (rd_95_67 hL) ?_
        refine eRI (kd_143 hL) h (fun v14 h => ?_)
        refine eWI (kd_160 hL) (Nat.le_of_ble_eq_true rfl) h (fun S15 h => ?_)
        exact eLeaf (θ := (Sum.map (fun (s4 : Int32 × ST) => (s4.1, mkM K R s4.2)) (fun (e4 : ST) => mkM K R e4))) h rfl
    · intro e4 h
      exact eLeaf (θ := (fun (o : (Int32 × ST)) => (o.1, mkM K R o.2))) h rfl
-- OnlyUpwardModel.restore(I)Z
set_option maxRecDepth 100000 in
set_option maxHeartbeats 4000000 in
def E_X12_restore (n : Nat) (S : ST) (a1 : Int32) : Option (Int32 × ST) :=
  (E_X12_in n S a1 (0 : Int32) (2 : Int32)).bind fun v1 => if v1 = 0 then some ((0 : Int32), S) else (rd (S.1 155) 3 a1).bind fun v3 => if 0 ≤ v3 then (rd (S.1 155) 3 a1).bind fun v5 => lets (upI S 95 62 v5) fun (S6 : ST) => (iter (fun (s7 : Int32 × ST) => if (s7.2.1 95 62) ≤ s7.1 then some (.inr s7.2) else (rd (s7.2.1 156) 90 (((30 : Int32) * a1) + s7.1)).bind fun v9 => (wr s7.2 139 30 s7.1 v9).bind fun S10 => (rd (S10.1 157) 90 (((30 : Int32) * a1) + s7.1)).bind fun v11 => (wr S10 140 30 s7.1 v11).bind fun S12 => (rd (S12.1 158) 90 (((30 : Int32) * a1) + s7.1)).bind fun v13 => (wr S12 141 30 s7.1 v13).bind fun S14 => (rd (S14.1 159) 90 (((30 : Int32) * a1) + s7.1)).bind fun v15 => (wr S14 142 30 s7.1 v15).bind fun S16 => (rd (S16.1 160) 90 (((30 : Int32) * a1) + s7.1)).bind fun v17 => (wr S16 143 30 s7.1 v17).bind fun S18 => some (.inl ((s7.1 + (1 : Int32)), S18))) n ((0 : Int32), S6)).bind fun (e7 : ST) => some ((1 : Int32), e7) else some ((0 : Int32), S)
set_option maxRecDepth 100000 in
set_option maxHeartbeats 4000000 in
theorem E_X12_restore_ok {n : Nat} (hn : 30000 ≤ n) {K : AK} {R : Nat → Nat → Option Nat} {S : ST} {a1 : Int32} {tz en : Nat} (hL : Lay K R tz en) {o : (Int32 × ST)} (h : E_X12_restore n S a1 = some o) : F_X12_restore n (mkM K R S) 95 a1 = some (o.1, mkM K R o.2) := by
  unfold E_X12_restore at h
  unfold F_X12_restore
  refine eCS (fun _ hv => E_X12_in_ok hn hL hv) h (fun v1 h => ?_)
  refine eIF h (fun c2 h => ?_) (fun c2 h => ?_)
  · exact eLeaf (θ := (fun (o : (Int32 × ST)) => (o.1, mkM K R o.2))) h rfl
  · refine eGR (kd_95 hL) (Nat.le_of_ble_eq_true rfl) (rd_95_88 hL) ?_
    refine eRI (kd_155 hL) h (fun v3 h => ?_)
    refine eIF h (fun c4 h => ?_) (fun c4 h => ?_)
    · refine eGR (kd_95 hL) (Nat.le_of_ble_eq_true rfl) (rd_95_88 hL) ?_
      refine eRI (kd_155 hL) h (fun v5 h => ?_)
      refine ePI (kd_95 hL) (Nat.le_of_ble_eq_true rfl) h (fun S6 h => ?_)
      refine eLP (fun (s7 : Int32 × ST) => (s7.1, mkM K R s7.2)) (fun (e7 : ST) => mkM K R e7) h rfl ?_ ?_
      · intro s7 x7 h
        refine eGI (kd_95 hL) (Nat.le_of_ble_eq_true rfl) ?_
        refine eIF h (fun c8 h => ?_) (fun c8 h => ?_)
        · exact eLeaf (θ := (Sum.map (fun (s7 : Int32 × ST) => (s7.1, mkM K R s7.2)) (fun (e7 : ST) => mkM K R e7))) h rfl
        · refine eGR (kd_95 hL) (Nat.le_of_ble_eq_true rfl) (rd_95_63 hL) ?_
          refine eGR (kd_95 hL) (Nat.le_of_ble_eq_true rfl) (rd_95_89 hL) ?_
          refine eRI (kd_156 hL) h (fun v9 h => ?_)
          refine eWI (kd_139 hL) (Nat.le_of_ble_eq_true rfl) h (fun S10 h => ?_)
          refine eGR (kd_95 hL) (Nat.le_of_ble_eq_true rfl) (rd_95_64 hL) ?_
          refine eGR (kd_95 hL) (Nat.le_of_ble_eq_true rfl) (rd_95_90 hL) ?_
          refine eRI (kd_157 hL) h (fun v11 h => ?_)
          refine eWI (kd_140 hL) (Nat.le_of_ble_eq_true rfl) h (fun S12 h => ?_)
          refine eGR (kd_95 hL) (Nat.le_of_ble_eq_true rfl) (rd_95_65 hL) ?_
          refine eGR (kd_95 hL) (Nat.le_of_ble_eq_true rfl) (rd_95_91 hL) ?_
          refine eRI (kd_158 hL) h (fun v13 h => ?_)
          refine eWI (kd_141 hL) (Nat.le_of_ble_eq_true rfl) h (fun S14 h => ?_)
          refine eGR (kd_95 hL) (Nat.le_of_ble_eq_true rfl) (rd_95_66 hL) ?_
          refine eGR (kd_95 hL) (Nat.le_of_ble_eq_true rfl) (rd_95_92 hL) ?_
          refine eRI (kd_159 hL) h (fun v15 h => ?_)
          refine eWI (kd_142 hL) (Nat.le_of_ble_eq_true rfl) h (fun S16 h => ?_)
          refine eGR (kd_95 hL) (Nat.le_of_ble_eq_true rfl) (rd_95_67 hL) ?_
          refine eGR (kd_95 hL) (Nat.le_of_ble_eq_true rfl) (rd_95_93 hL) ?_
          refine eRI (kd_160 hL) h (fun v17 h => ?_)
          refine eWI (kd_143 hL) (Nat.le_of_ble_eq_true rfl) h (fun S18 h => ?_)
          exact eLeaf (θ := (Sum.map (fun (s7 : Int32 × ST) => (s7.1, mkM K R s7.2)) (fun (e7 : ST) => mkM K R e7))) h rfl
      · intro e7 h
        exact eLeaf (θ := (fun (o : (Int32 × ST)) => (o.1, mkM K R o.2))) h rfl
    · exact eLeaf (θ := (fun (o : (Int32 × ST)) => (o.1, mkM K R o.2))) h rfl
-- OnlyUpwardModel.count(I)I
set_option maxRecDepth 100000 in
set_option maxHeartbeats 4000000 in
def E_X12_count (n : Nat) (S : ST) (a1 : Int32) : Option Int32 :=
  jn ((E_X12_has n S a1).bind fun v1 => some v1) fun j2 => if a1 = (0 : Int32) then j2 else if a1 = (1 : Int32) then j2 else if a1 = (2 : Int32) then j2 else if a1 = (3 : Int32) then j2 else if a1 = (4 : Int32) then j2 else if a1 = (5 : Int32) then (E_X12_has n S (6 : Int32)).bind fun v9 => some v9 else if a1 = (6 : Int32) then (E_X12_has n S (7 : Int32)).bind fun v11 => some v11 else if a1 = (7 : Int32) then (rd (S.1 107) 2 (S.1 95 18)).bind fun v13 => some v13 else if a1 = (8 : Int32) then (rd (S.1 125) 4 ((2 : Int32) * (S.1 95 18))).bind fun v15 => some v15 else if a1 = (9 : Int32) then (rd (S.1 125) 4 (((2 : Int32) * (S.1 95 18)) + (1 : Int32))).bind fun v17 => some v17 else if a1 = (10 : Int32) then some (S.1 95 62) else if a1 = (11 : Int32) then some (S.1 95 2) else if a1 = (12 : Int32) then (rd (S.1 155) 3 (0 : Int32)).bind fun v21 => jn (fun (u22 : Int32) => (rd (S.1 155) 3 (1 : Int32)).bind fun v23 => jn (fun (u24 : Int32) => (rd (S.1 155) 3 (2 : Int32)).bind fun v25 => jn (fun (u26 : Int32) => some ((u22 + u24) + u26)) fun j27 => if 0 ≤ v25 then j27 (1 : Int32) else j27 (0 : Int32)) fun j29 => if 0 ≤ v23 then j29 (1 : Int32) else j29 (0 : Int32)) fun j31 => if 0 ≤ v21 then j31 (1 : Int32) else j31 (0 : Int32) else (E_X12_isThing n S (a1 - (20 : Int32))).bind fun v33 => if v33 = 0 then (rd (S.1 107) 2 (S.1 95 18)).bind fun v35 => (E_X12_in n S (a1 - (30 : Int32)) (0 : Int32) (v35 - (1 : Int32))).bind fun v36 => if v36 = 0 then (E_X12_isAct n S (a1 - (40 : Int32))).bind fun v38 => if v38 = 0 then some (-1 : Int32) else (rd (S.1 123) 12 ((((6 : Int32) * (S.1 95 18)) + a1) - (40 : Int32))).bind fun v40 => some v40 else (rd (S.1 124) 8 ((((4 : Int32) * (S.1 95 18)) + a1) - (30 : Int32))).bind fun v41 => (E_X12_bits n S v41).bind fun v42 => some v42 else (rd (S.1 110) 12 ((((6 : Int32) * (S.1 95 18)) + a1) - (20 : Int32))).bind fun v43 => some v43
set_option maxRecDepth 100000 in
set_option maxHeartbeats 4000000 in
theorem E_X12_count_ok {n : Nat} (hn : 30000 ≤ n) {K : AK} {R : Nat → Nat → Option Nat} {S : ST} {a1 : Int32} {tz en : Nat} (hL : Lay K R tz en) {o : Int32} (h : E_X12_count n S a1 = some o) : F_X12_count n (mkM K R S) 95 a1 = some o := by
  unfold E_X12_count at h
  unfold F_X12_count
  refine eJN (fun j2 fj2 => j2 = some o → fj2 = some o) h ?_ ?_
  · intro h
    refine eCV (kd_95 hL) (Nat.le_of_ble_eq_true rfl) (fun _ hv => E_X12_has_ok hn hL hv) h (fun v1 h => ?_)
    exact eLeaf (θ := (fun (o : Int32) => o)) h rfl
  · intro j2 fj2 Jj2 h
    refine eIF h (fun c3 h => ?_) (fun c3 h => ?_)
    · exact Jj2 h
    · refine eIF h (fun c4 h => ?_) (fun c4 h => ?_)
      · exact Jj2 h
      · refine eIF h (fun c5 h => ?_) (fun c5 h => ?_)
        · exact Jj2 h
        · refine eIF h (fun c6 h => ?_) (fun c6 h => ?_)
          · exact Jj2 h
          · refine eIF h (fun c7 h => ?_) (fun c7 h => ?_)
            · exact Jj2 h
            · refine eIF h (fun c8 h => ?_) (fun c8 h => ?_)
              · refine eCV (kd_95 hL) (Nat.le_of_ble_eq_true rfl) (fun _ hv => E_X12_has_ok hn hL hv) h (fun v9 h => ?_)
                exact eLeaf (θ := (fun (o : Int32) => o)) h rfl
              · refine eIF h (fun c10 h => ?_) (fun c10 h => ?_)
                · refine eCV (kd_95 hL) (Nat.le_of_ble_eq_true rfl) (fun _ hv => E_X12_has_ok hn hL hv) h (fun v11 h => ?_)
                  exact eLeaf (θ := (fun (o : Int32) => o)) h rfl
                · refine eIF h (fun c12 h => ?_) (fun c12 h => ?_)
                  · refine eGR (kd_95 hL) (Nat.le_of_ble_eq_true rfl) (rd_95_25 hL) ?_
                    refine eGI (kd_95 hL) (Nat.le_of_ble_eq_true rfl) ?_
                    refine eRI (kd_107 hL) h (fun v13 h => ?_)
                    exact eLeaf (θ := (fun (o : Int32) => o)) h rfl
                  · refine eIF h (fun c14 h => ?_) (fun c14 h => ?_)
                    · refine eGR (kd_95 hL) (Nat.le_of_ble_eq_true rfl) (rd_95_43 hL) ?_
                      refine eGI (kd_95 hL) (Nat.le_of_ble_eq_true rfl) ?_
                      refine eRI (kd_125 hL) h (fun v15 h => ?_)
                      exact eLeaf (θ := (fun (o : Int32) => o)) h rfl
                    · refine eIF h (fun c16 h => ?_) (fun c16 h => ?_)
                      · refine eGR (kd_95 hL) (Nat.le_of_ble_eq_true rfl) (rd_95_43 hL) ?_
                        refine eGI (kd_95 hL) (Nat.le_of_ble_eq_true rfl) ?_
                        refine eRI (kd_125 hL) h (fun v17 h => ?_)
                        exact eLeaf (θ := (fun (o : Int32) => o)) h rfl
                      · refine eIF h (fun c18 h => ?_) (fun c18 h => ?_)
                        · refine eGI (kd_95 hL) (Nat.le_of_ble_eq_true rfl) ?_
                          exact eLeaf (θ := (fun (o : Int32) => o)) h rfl
                        · refine eIF h (fun c19 h => ?_) (fun c19 h => ?_)
                          · refine eGI (kd_95 hL) (Nat.le_of_ble_eq_true rfl) ?_
                            exact eLeaf (θ := (fun (o : Int32) => o)) h rfl
                          · refine eIF h (fun c20 h => ?_) (fun c20 h => ?_)
                            · refine eGR (kd_95 hL) (Nat.le_of_ble_eq_true rfl) (rd_95_88 hL) ?_
                              refine eRI (kd_155 hL) h (fun v21 h => ?_)
                              refine eJN (fun j31 fj31 => ∀ (u22 : Int32), j31 u22 = some o → fj31 u22 = some o) h ?_ ?_
                              · intro u22 h
                                refine eGR (kd_95 hL) (Nat.le_of_ble_eq_true rfl) (rd_95_88 hL) ?_
                                refine eRI (kd_155 hL) h (fun v23 h => ?_)
                                refine eJN (fun j29 fj29 => ∀ (u24 : Int32), j29 u24 = some o → fj29 u24 = some o) h ?_ ?_
                                · intro u24 h
                                  refine eGR (kd_95 hL) (Nat.le_of_ble_eq_true rfl) (rd_95_88 hL) ?_
                                  refine eRI (kd_155 hL) h (fun v25 h => ?_)
                                  refine eJN (fun j27 fj27 => ∀ (u26 : Int32), j27 u26 = some o → fj27 u26 = some o) h ?_ ?_
                                  · intro u26 h
                                    exact eLeaf (θ := (fun (o : Int32) => o)) h rfl
                                  · intro j27 fj27 Jj27 h
                                    refine eIF h (fun c28 h => ?_) (fun c28 h => ?_)
                                    · exact Jj27 _ h
                                    · exact Jj27 _ h
                                · intro j29 fj29 Jj29 h
                                  refine eIF h (fun c30 h => ?_) (fun c30 h => ?_)
                                  · exact Jj29 _ h
                                  · exact Jj29 _ h
                              · intro j31 fj31 Jj31 h
                                refine eIF h (fun c32 h => ?_) (fun c32 h => ?_)
                                · exact Jj31 _ h
                                · exact Jj31 _ h
                            · refine eCV (kd_95 hL) (Nat.le_of_ble_eq_true rfl) (fun _ hv => E_X12_isThing_ok hn hL hv) h (fun v33 h => ?_)
                              refine eIF h (fun c34 h => ?_) (fun c34 h => ?_)
                              · refine eGR (kd_95 hL) (Nat.le_of_ble_eq_true rfl) (rd_95_25 hL) ?_
                                refine eGI (kd_95 hL) (Nat.le_of_ble_eq_true rfl) ?_
                                refine eRI (kd_107 hL) h (fun v35 h => ?_)
                                refine eCS (fun _ hv => E_X12_in_ok hn hL hv) h (fun v36 h => ?_)
                                refine eIF h (fun c37 h => ?_) (fun c37 h => ?_)
                                · refine eCV (kd_95 hL) (Nat.le_of_ble_eq_true rfl) (fun _ hv => E_X12_isAct_ok hn hL hv) h (fun v38 h => ?_)
                                  refine eIF h (fun c39 h => ?_) (fun c39 h => ?_)
                                  · exact eLeaf (θ := (fun (o : Int32) => o)) h rfl
                                  · refine eGR (kd_95 hL) (Nat.le_of_ble_eq_true rfl) (rd_95_41 hL) ?_
                                    refine eGI (kd_95 hL) (Nat.le_of_ble_eq_true rfl) ?_
                                    refine eRI (kd_123 hL) h (fun v40 h => ?_)
                                    exact eLeaf (θ := (fun (o : Int32) => o)) h rfl
                                · refine eGR (kd_95 hL) (Nat.le_of_ble_eq_true rfl) (rd_95_42 hL) ?_
                                  refine eGI (kd_95 hL) (Nat.le_of_ble_eq_true rfl) ?_
                                  refine eRI (kd_124 hL) h (fun v41 h => ?_)
                                  refine eCS (fun _ hv => E_X12_bits_ok hn hL hv) h (fun v42 h => ?_)
                                  exact eLeaf (θ := (fun (o : Int32) => o)) h rfl
                              · refine eGR (kd_95 hL) (Nat.le_of_ble_eq_true rfl) (rd_95_28 hL) ?_
                                refine eGI (kd_95 hL) (Nat.le_of_ble_eq_true rfl) ?_
                                refine eRI (kd_110 hL) h (fun v43 h => ?_)
                                exact eLeaf (θ := (fun (o : Int32) => o)) h rfl
