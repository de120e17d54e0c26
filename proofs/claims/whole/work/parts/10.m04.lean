-- OnlyUpwardModel.mayBy(IIIII)Z
set_option maxRecDepth 100000 in
set_option maxHeartbeats 4000000 in
def F_X12_mayBy (n : Nat) (M : AM) (a0 : Nat) (a1 : Int32) (a2 : Int32) (a3 : Int32) (a4 : Int32) (a5 : Int32) : Option (Int32 × AM) :=
  (rcv 12 M a0 (F_X12_placeOf n M a0 a1 a3)).bind fun v1 => if a1 = a2 then some ((0 : Int32), M) else if a5 = (3 : Int32) then some ((0 : Int32), M) else if v1 < 0 then some ((0 : Int32), M) else (rcv 12 M a0 (F_X12_placeOf n M a0 a2 a3)).bind fun v5 => if v5 = v1 then if a5 = (2 : Int32) then some ((1 : Int32), M) else (rcv 12 M a0 (F_X12_ageAt n M a0 a1 a3)).bind fun v8 => (rcv 12 M a0 (F_X12_ageAt n M a0 a2 a3)).bind fun v9 => if a5 = (1 : Int32) then if v8 < v9 then some ((0 : Int32), M) else some ((1 : Int32), M) else (gR 12 43 M a0).bind fun v12 => (gI 12 18 M a0).bind fun v13 => (rdI M v12 (((2 : Int32) * v13) + a4)).bind fun v14 => if v14 = 0 then jn (some ((1 : Int32), M)) fun j16 => if a4 = (1 : Int32) then j16 else if v9 < v8 then some ((0 : Int32), M) else j16 else (gR 12 58 M a0).bind fun v19 => (wrI M v19 (0 : Int32) v8).bind fun M20 => (gR 12 58 M20 a0).bind fun v21 => (wrI M20 v21 (1 : Int32) v9).bind fun M22 => (gR 12 58 M22 a0).bind fun v23 => (wrI M22 v23 (2 : Int32) a3).bind fun M24 => (gR 12 58 M24 a0).bind fun v25 => (rcv 12 M24 a0 (F_X12_crowdAt n M24 a0 v1 a3)).bind fun v26 => (F_X12_bits n M24 v26).bind fun v27 => (wrI M24 v25 (3 : Int32) v27).bind fun M28 => (iter (fun (s29 : Int32 × AM) => (gR 12 43 s29.2 a0).bind fun v30 => (gI 12 18 s29.2 a0).bind fun v31 => (rdI s29.2 v30 (((2 : Int32) * v31) + a4)).bind fun v32 => if v32 ≤ s29.1 then some (.inr (.inl s29.2)) else (gI 12 18 s29.2 a0).bind fun v34 => (rcv 12 s29.2 a0 (F_X12_holdsRule n s29.2 a0 ((((8 : Int32) * v34) + ((4 : Int32) * a4)) + s29.1))).bind fun v35 => if v35.1 = 0 then some (.inl ((s29.1 + (1 : Int32)), v35.2)) else some (.inr (.inr ((1 : Int32), v35.2)))) n ((0 : Int32), M28)).bind fun (z29 : (AM) ⊕ (Int32 × AM)) => Sum.elim (fun (e29 : AM) => some ((0 : Int32), e29)) (fun (v : (Int32 × AM)) => some v) z29 else some ((0 : Int32), M)
set_option maxRecDepth 100000 in
set_option maxHeartbeats 4000000 in
theorem C_X12_mayBy {n : Nat} {M : AM} {a0 : Nat} {a1 : Int32} {a2 : Int32} {a3 : Int32} {a4 : Int32} {a5 : Int32} {o : (Int32 × AM)} (h : F_X12_mayBy n M a0 a1 a2 a3 a4 a5 = some o) : Cn yX12_mayBy cX12_mayBy 10 (some .boolean) 3 [.ref a0, .int a1, .int a2, .int a3, .int a4, .int a5] M (some (.int o.1)) o.2 := by
  unfold F_X12_mayBy at h
  refine Cn.of rfl (Nat.le_of_ble_eq_true rfl) ?_
  show G yX12_mayBy cX12_mayBy 10 (some .boolean) 3 0 [(0, .ref a0), (1, .int a1), (2, .int a2), (3, .int a3), (4, .int a4), (5, .int a5)] [] M (some (.int o.1)) o.2
  refine G.aload_n dX12_mayBy_0 rfl rfl ?_
  refine G.iload_n dX12_mayBy_1 rfl rfl ?_
  refine G.iload_n dX12_mayBy_2 rfl rfl ?_
  refine G.callVi (ci := 12) [.int a1, .int a3] [] dX12_mayBy_3 lkX12_396 okX12_placeOf rfl (fun v hv => C_X12_placeOf hv) (Nat.le_of_ble_eq_true rfl) rfl rfl (Nat.le_of_ble_eq_true rfl) h (fun v1 h => ?_)
  refine G.istore (lv' := [(6, .int v1), (0, .ref a0), (1, .int a1), (2, .int a2), (3, .int a3), (4, .int a4), (5, .int a5)]) dX12_mayBy_6 (Nat.le_of_ble_eq_true rfl) rfl ?_
  refine G.iload_n dX12_mayBy_8 rfl rfl ?_
  refine G.iload_n dX12_mayBy_9 rfl rfl ?_
  refine G.icmp_eq 35 dX12_mayBy_10 (by decide) h (fun c2 h => ?_) (fun c2 h => ?_)
  · refine G.iconst (0 : Int32) dX12_mayBy_35 ki_0 ?_
    exact G.iretW dX12_mayBy_36 rfl (by decide) h
  · refine G.iload dX12_mayBy_13 rfl ?_
    refine G.iconst (3 : Int32) dX12_mayBy_15 ki_3 ?_
    refine G.icmp_eq 35 dX12_mayBy_16 (by decide) h (fun c3 h => ?_) (fun c3 h => ?_)
    · refine G.iconst (0 : Int32) dX12_mayBy_35 ki_0 ?_
      exact G.iretW dX12_mayBy_36 rfl (by decide) h
    · refine G.iload dX12_mayBy_19 rfl ?_
      refine G.if_lt 35 dX12_mayBy_21 (by decide) h (fun c4 h => ?_) (fun c4 h => ?_)
      · refine G.iconst (0 : Int32) dX12_mayBy_35 ki_0 ?_
        exact G.iretW dX12_mayBy_36 rfl (by decide) h
      · refine G.aload_n dX12_mayBy_24 rfl rfl ?_
        refine G.iload_n dX12_mayBy_25 rfl rfl ?_
        refine G.iload_n dX12_mayBy_26 rfl rfl ?_
        refine G.callVi (ci := 12) [.int a2, .int a3] [] dX12_mayBy_27 lkX12_396 okX12_placeOf rfl (fun v hv => C_X12_placeOf hv) (Nat.le_of_ble_eq_true rfl) rfl rfl (Nat.le_of_ble_eq_true rfl) h (fun v5 h => ?_)
        refine G.iload dX12_mayBy_30 rfl ?_
        refine G.icmp_eq 37 dX12_mayBy_32 (by decide) h (fun c6 h => ?_) (fun c6 h => ?_)
        · refine G.iload dX12_mayBy_37 rfl ?_
          refine G.iconst (2 : Int32) dX12_mayBy_39 ki_2 ?_
          refine G.icmp_ne 45 dX12_mayBy_40 (by decide) h (fun c7 h => ?_) (fun c7 h => ?_)
          · refine G.iconst (1 : Int32) dX12_mayBy_43 ki_1 ?_
            exact G.iretW dX12_mayBy_44 rfl (by decide) h
          · refine G.aload_n dX12_mayBy_45 rfl rfl ?_
            refine G.iload_n dX12_mayBy_46 rfl rfl ?_
            refine G.iload_n dX12_mayBy_47 rfl rfl ?_
            refine G.callVi (ci := 12) [.int a1, .int a3] [] dX12_mayBy_48 lkX12_403 okX12_ageAt rfl (fun v hv => C_X12_ageAt hv) (Nat.le_of_ble_eq_true rfl) rfl rfl (Nat.le_of_ble_eq_true rfl) h (fun v8 h => ?_)
            refine G.istore (lv' := [(7, .int v8), (6, .int v1), (0, .ref a0), (1, .int a1), (2, .int a2), (3, .int a3), (4, .int a4), (5, .int a5)]) dX12_mayBy_51 (Nat.le_of_ble_eq_true rfl) rfl ?_
            refine G.aload_n dX12_mayBy_53 rfl rfl ?_
            refine G.iload_n dX12_mayBy_54 rfl rfl ?_
            refine G.iload_n dX12_mayBy_55 rfl rfl ?_
            refine G.callVi (ci := 12) [.int a2, .int a3] [] dX12_mayBy_56 lkX12_403 okX12_ageAt rfl (fun v hv => C_X12_ageAt hv) (Nat.le_of_ble_eq_true rfl) rfl rfl (Nat.le_of_ble_eq_true rfl) h (fun v9 h => ?_)
            refine G.istore (lv' := [(8, .int v9), (7, .int v8), (6, .int v1), (0, .ref a0), (1, .int a1), (2, .int a2), (3, .int a3), (4, .int a4), (5, .int a5)]) dX12_mayBy_59 (Nat.le_of_ble_eq_true rfl) rfl ?_
            refine G.iload dX12_mayBy_61 rfl ?_
            refine G.iconst (1 : Int32) dX12_mayBy_63 ki_1 ?_
            refine G.icmp_ne 80 dX12_mayBy_64 (by decide) h (fun c10 h => ?_) (fun c10 h => ?_)
            · refine G.iload dX12_mayBy_67 rfl ?_
              refine G.iload dX12_mayBy_69 rfl ?_
              refine G.icmp_gt 78 dX12_mayBy_71 (by decide) h (fun c11 h => ?_) (fun c11 h => ?_)
              · refine G.iconst (0 : Int32) dX12_mayBy_78 ki_0 ?_
                exact G.iretW dX12_mayBy_79 rfl (by decide) h
              · refine G.iconst (1 : Int32) dX12_mayBy_74 ki_1 ?_
                refine G.goto 79 dX12_mayBy_75 (by decide) ?_
                exact G.iretW dX12_mayBy_79 rfl (by decide) h
            · refine G.aload_n dX12_mayBy_80 rfl rfl ?_
              refine G.getR dX12_mayBy_81 fkX12_106 fr12_43 h (fun v12 h => ?_)
              refine G.iconst (2 : Int32) dX12_mayBy_84 ki_2 ?_
              refine G.aload_n dX12_mayBy_85 rfl rfl ?_
              refine G.getI dX12_mayBy_86 fkX12_290 fr12_18 h (fun v13 h => ?_)
              refine G.imul dX12_mayBy_89 ?_
              refine G.iload dX12_mayBy_90 rfl ?_
              refine G.iadd dX12_mayBy_92 ?_
              refine G.iald dX12_mayBy_93 h (fun v14 h => ?_)
              refine G.if_ne 116 dX12_mayBy_94 (by decide) h (fun c15 h => ?_) (fun c15 h => ?_)
              · refine G.iload dX12_mayBy_97 rfl ?_
                refine G.iconst (1 : Int32) dX12_mayBy_99 ki_1 ?_
                refine jn_elim (fun j16 => j16 = some o → G yX12_mayBy cX12_mayBy 10 (some .boolean) 3 110 [] [] M (some (.int o.1)) o.2) h ?_ ?_
                · intro h
                  refine G.iconst (1 : Int32) dX12_mayBy_110 ki_1 ?_
                  refine G.goto 115 dX12_mayBy_111 (by decide) ?_
                  exact G.iretW dX12_mayBy_115 rfl (by decide) h
                · intro j16 Jj16 h
                  refine G.icmp_eq 110 dX12_mayBy_100 (by decide) h (fun c17 h => ?_) (fun c17 h => ?_)
                  · refine G.sub (lv' := []) [] rfl ?_
                    exact Jj16  h
                  · refine G.iload dX12_mayBy_103 rfl ?_
                    refine G.iload dX12_mayBy_105 rfl ?_
                    refine G.icmp_gt 114 dX12_mayBy_107 (by decide) h (fun c18 h => ?_) (fun c18 h => ?_)
                    · refine G.iconst (0 : Int32) dX12_mayBy_114 ki_0 ?_
                      exact G.iretW dX12_mayBy_115 rfl (by decide) h
                    · refine G.sub (lv' := []) [] rfl ?_
                      exact Jj16  h
              · refine G.aload_n dX12_mayBy_116 rfl rfl ?_
                refine G.getR dX12_mayBy_117 fkX12_143 fr12_58 h (fun v19 h => ?_)
                refine G.iconst (0 : Int32) dX12_mayBy_120 ki_0 ?_
                refine G.iload dX12_mayBy_121 rfl ?_
                refine G.iast dX12_mayBy_123 h (fun M20 h => ?_)
                refine G.aload_n dX12_mayBy_124 rfl rfl ?_
                refine G.getR dX12_mayBy_125 fkX12_143 fr12_58 h (fun v21 h => ?_)
                refine G.iconst (1 : Int32) dX12_mayBy_128 ki_1 ?_
                refine G.iload dX12_mayBy_129 rfl ?_
                refine G.iast dX12_mayBy_131 h (fun M22 h => ?_)
                refine G.aload_n dX12_mayBy_132 rfl rfl ?_
                refine G.getR dX12_mayBy_133 fkX12_143 fr12_58 h (fun v23 h => ?_)
                refine G.iconst (2 : Int32) dX12_mayBy_136 ki_2 ?_
                refine G.iload_n dX12_mayBy_137 rfl rfl ?_
                refine G.iast dX12_mayBy_138 h (fun M24 h => ?_)
                refine G.aload_n dX12_mayBy_139 rfl rfl ?_
                refine G.getR dX12_mayBy_140 fkX12_143 fr12_58 h (fun v25 h => ?_)
                refine G.iconst (3 : Int32) dX12_mayBy_143 ki_3 ?_
                refine G.aload_n dX12_mayBy_144 rfl rfl ?_
                refine G.iload dX12_mayBy_145 rfl ?_
                refine G.iload_n dX12_mayBy_147 rfl rfl ?_
                refine G.callVi (ci := 12) [.int v1, .int a3] [.int (3 : Int32), .ref v25] dX12_mayBy_148 lkX12_406 okX12_crowdAt rfl (fun v hv => C_X12_crowdAt hv) (Nat.le_of_ble_eq_true rfl) rfl rfl (Nat.le_of_ble_eq_true rfl) h (fun v26 h => ?_)
                refine G.callSi [.int v26] [.int (3 : Int32), .ref v25] dX12_mayBy_151 lkX12_409 okX12_bits (fun v hv => C_X12_bits hv) (Nat.le_of_ble_eq_true rfl) rfl rfl (Nat.le_of_ble_eq_true rfl) h (fun v27 h => ?_)
                refine G.iast dX12_mayBy_154 h (fun M28 h => ?_)
                refine G.iconst (0 : Int32) dX12_mayBy_155 ki_0 ?_
                refine G.istore (lv' := [(9, .int (0 : Int32)), (8, .int v9), (7, .int v8), (6, .int v1), (0, .ref a0), (1, .int a1), (2, .int a2), (3, .int a3), (4, .int a4), (5, .int a5)]) dX12_mayBy_156 (Nat.le_of_ble_eq_true rfl) rfl ?_
                refine G.sub (lv' := [(0, .ref a0), (4, .int a4), (9, .int (0 : Int32))]) [4, 8, 0] rfl ?_
                refine loopE (fun (s29 : Int32 × AM) => G yX12_mayBy cX12_mayBy 10 (some .boolean) 3 158 [(0, .ref a0), (4, .int a4), (9, .int s29.1)] [] s29.2 (some (.int o.1)) o.2) (fun (z29 : (AM) ⊕ (Int32 × AM)) => Sum.elim (fun (e29 : AM) => G yX12_mayBy cX12_mayBy 10 (some .boolean) 3 207 [] [] e29 (some (.int o.1)) o.2) (fun (v : (Int32 × AM)) => some v = some o) z29) h ?_ ?_
                · intro z29 h
                  rcases z29 with e29 | v
                  · have h := sum_inl h
                    show G yX12_mayBy cX12_mayBy 10 (some .boolean) 3 207 [] [] e29 (some (.int o.1)) o.2
                    refine G.iconst (0 : Int32) dX12_mayBy_207 ki_0 ?_
                    exact G.iretW dX12_mayBy_208 rfl (by decide) h
                  · have h := sum_inr h
                    exact h
                · intro s29 x29 h K29
                  show G yX12_mayBy cX12_mayBy 10 (some .boolean) 3 158 [(0, .ref a0), (4, .int a4), (9, .int s29.1)] [] s29.2 (some (.int o.1)) o.2
                  refine G.iload dX12_mayBy_158 rfl ?_
                  refine G.aload_n dX12_mayBy_160 rfl rfl ?_
                  refine G.getR dX12_mayBy_161 fkX12_106 fr12_43 h (fun v30 h => ?_)
                  refine G.iconst (2 : Int32) dX12_mayBy_164 ki_2 ?_
                  refine G.aload_n dX12_mayBy_165 rfl rfl ?_
                  refine G.getI dX12_mayBy_166 fkX12_290 fr12_18 h (fun v31 h => ?_)
                  refine G.imul dX12_mayBy_169 ?_
                  refine G.iload dX12_mayBy_170 rfl ?_
                  refine G.iadd dX12_mayBy_172 ?_
                  refine G.iald dX12_mayBy_173 h (fun v32 h => ?_)
                  refine G.icmp_ge 207 dX12_mayBy_174 (by decide) h (fun c33 h => ?_) (fun c33 h => ?_)
                  · refine G.sub (lv' := []) [] rfl ?_
                    have h := leafR' h K29
                    exact h
                  · refine G.aload_n dX12_mayBy_177 rfl rfl ?_
                    refine G.bipush (8 : Int32) dX12_mayBy_178 kb_8 ?_
                    refine G.aload_n dX12_mayBy_180 rfl rfl ?_
                    refine G.getI dX12_mayBy_181 fkX12_290 fr12_18 h (fun v34 h => ?_)
                    refine G.imul dX12_mayBy_184 ?_
                    refine G.iconst (4 : Int32) dX12_mayBy_185 ki_4 ?_
                    refine G.iload dX12_mayBy_186 rfl ?_
                    refine G.imul dX12_mayBy_188 ?_
                    refine G.iadd dX12_mayBy_189 ?_
                    refine G.iload dX12_mayBy_190 rfl ?_
                    refine G.iadd dX12_mayBy_192 ?_
                    refine G.callVi (ci := 12) [.int ((((8 : Int32) * v34) + ((4 : Int32) * a4)) + s29.1)] [] dX12_mayBy_193 lkX12_412 okX12_holdsRule rfl (fun v hv => C_X12_holdsRule hv) (Nat.le_of_ble_eq_true rfl) rfl rfl (Nat.le_of_ble_eq_true rfl) h (fun v35 h => ?_)
                    refine G.if_eq 201 dX12_mayBy_196 (by decide) h (fun c36 h => ?_) (fun c36 h => ?_)
                    · refine G.iinc s29.1 (w := (s29.1 + (1 : Int32))) (lv' := [(9, .int (s29.1 + (1 : Int32))), (0, .ref a0), (4, .int a4)]) dX12_mayBy_201 rfl rfl (Nat.le_of_ble_eq_true rfl) rfl ?_
                      refine G.goto 158 dX12_mayBy_204 (by decide) ?_
                      refine G.sub (lv' := [(0, .ref a0), (4, .int a4), (9, .int (s29.1 + (1 : Int32)))]) [1, 2, 0] rfl ?_
                      have h := leafL' h K29
                      exact h
                    · refine G.iconst (1 : Int32) dX12_mayBy_199 ki_1 ?_
                      have h := leafR' h K29
                      exact G.iretW dX12_mayBy_200 rfl (by decide) h
        · refine G.iconst (0 : Int32) dX12_mayBy_35 ki_0 ?_
          exact G.iretW dX12_mayBy_36 rfl (by decide) h
-- OnlyUpwardModel.may(IIIZ)I
set_option maxRecDepth 100000 in
set_option maxHeartbeats 4000000 in
def F_X12_may (n : Nat) (M : AM) (a0 : Nat) (a1 : Int32) (a2 : Int32) (a3 : Int32) (a4 : Int32) : Option (Int32 × AM) :=
  (rcv 12 M a0 (F_X12_isPerson n M a0 a1)).bind fun v1 => if v1 = 0 then some ((-1 : Int32), M) else (rcv 12 M a0 (F_X12_isPerson n M a0 a2)).bind fun v3 => if v3 = 0 then some ((-1 : Int32), M) else if a1 = a2 then some ((-1 : Int32), M) else (F_X12_isHour n M a3).bind fun v6 => if v6 = 0 then some ((-1 : Int32), M) else jn (fun (u8 : Int32) => (rcv 12 M a0 (F_X12_mayBy n M a0 a1 a2 a3 u8 (0 : Int32))).bind fun v9 => if v9.1 = 0 then some ((0 : Int32), v9.2) else some ((1 : Int32), v9.2)) fun j11 => if a4 = 0 then j11 (0 : Int32) else j11 (1 : Int32)
set_option maxRecDepth 100000 in
set_option maxHeartbeats 4000000 in
theorem C_X12_may {n : Nat} {M : AM} {a0 : Nat} {a1 : Int32} {a2 : Int32} {a3 : Int32} {a4 : Int32} {o : (Int32 × AM)} (h : F_X12_may n M a0 a1 a2 a3 a4 = some o) : Cn yX12_may cX12_may 5 (some .int) 4 [.ref a0, .int a1, .int a2, .int a3, .int a4] M (some (.int o.1)) o.2 := by
  unfold F_X12_may at h
  refine Cn.of rfl (Nat.le_of_ble_eq_true rfl) ?_
  show G yX12_may cX12_may 5 (some .int) 4 0 [(0, .ref a0), (1, .int a1), (2, .int a2), (3, .int a3), (4, .int a4)] [] M (some (.int o.1)) o.2
  refine G.aload_n dX12_may_0 rfl rfl ?_
  refine G.iload_n dX12_may_1 rfl rfl ?_
  refine G.callVi (ci := 12) [.int a1] [] dX12_may_2 lkX12_415 okX12_isPerson rfl (fun v hv => C_X12_isPerson hv) (Nat.le_of_ble_eq_true rfl) rfl rfl (Nat.le_of_ble_eq_true rfl) h (fun v1 h => ?_)
  refine G.if_eq 57 dX12_may_5 (by decide) h (fun c2 h => ?_) (fun c2 h => ?_)
  · refine G.iconst (-1 : Int32) dX12_may_57 ki_m1 ?_
    exact G.iretW dX12_may_58 rfl (rfl) h
  · refine G.aload_n dX12_may_8 rfl rfl ?_
    refine G.iload_n dX12_may_9 rfl rfl ?_
    refine G.callVi (ci := 12) [.int a2] [] dX12_may_10 lkX12_415 okX12_isPerson rfl (fun v hv => C_X12_isPerson hv) (Nat.le_of_ble_eq_true rfl) rfl rfl (Nat.le_of_ble_eq_true rfl) h (fun v3 h => ?_)
    refine G.if_eq 57 dX12_may_13 (by decide) h (fun c4 h => ?_) (fun c4 h => ?_)
    · refine G.iconst (-1 : Int32) dX12_may_57 ki_m1 ?_
      exact G.iretW dX12_may_58 rfl (rfl) h
    · refine G.iload_n dX12_may_16 rfl rfl ?_
      refine G.iload_n dX12_may_17 rfl rfl ?_
      refine G.icmp_eq 57 dX12_may_18 (by decide) h (fun c5 h => ?_) (fun c5 h => ?_)
      · refine G.iconst (-1 : Int32) dX12_may_57 ki_m1 ?_
        exact G.iretW dX12_may_58 rfl (rfl) h
      · refine G.iload_n dX12_may_21 rfl rfl ?_
        refine G.callSi [.int a3] [] dX12_may_22 lkX12_418 okX12_isHour (fun v hv => C_X12_isHour hv) (Nat.le_of_ble_eq_true rfl) rfl rfl (Nat.le_of_ble_eq_true rfl) h (fun v6 h => ?_)
        refine G.if_eq 57 dX12_may_25 (by decide) h (fun c7 h => ?_) (fun c7 h => ?_)
        · refine G.iconst (-1 : Int32) dX12_may_57 ki_m1 ?_
          exact G.iretW dX12_may_58 rfl (rfl) h
        · refine G.aload_n dX12_may_28 rfl rfl ?_
          refine G.iload_n dX12_may_29 rfl rfl ?_
          refine G.iload_n dX12_may_30 rfl rfl ?_
          refine G.iload_n dX12_may_31 rfl rfl ?_
          refine G.iload dX12_may_32 rfl ?_
          refine jn_elim (fun j11 => ∀ (u8 : Int32), j11 u8 = some o → G yX12_may cX12_may 5 (some .int) 4 42 [] [.int u8, .int a3, .int a2, .int a1, .ref a0] M (some (.int o.1)) o.2) h ?_ ?_
          · intro u8 h
            refine G.iconst (0 : Int32) dX12_may_42 ki_0 ?_
            refine G.callVi (ci := 12) [.int a1, .int a2, .int a3, .int u8, .int (0 : Int32)] [] dX12_may_43 lkX12_427 okX12_mayBy rfl (fun v hv => C_X12_mayBy hv) (Nat.le_of_ble_eq_true rfl) rfl rfl (Nat.le_of_ble_eq_true rfl) h (fun v9 h => ?_)
            refine G.if_eq 53 dX12_may_46 (by decide) h (fun c10 h => ?_) (fun c10 h => ?_)
            · refine G.iconst (0 : Int32) dX12_may_53 ki_0 ?_
              refine G.goto 58 dX12_may_54 (by decide) ?_
              exact G.iretW dX12_may_58 rfl (rfl) h
            · refine G.iconst (1 : Int32) dX12_may_49 ki_1 ?_
              refine G.goto 58 dX12_may_50 (by decide) ?_
              exact G.iretW dX12_may_58 rfl (rfl) h
          · intro j11 Jj11 h
            refine G.if_eq 41 dX12_may_34 (by decide) h (fun c12 h => ?_) (fun c12 h => ?_)
            · refine G.iconst (0 : Int32) dX12_may_41 ki_0 ?_
              refine G.sub (lv' := []) [] rfl ?_
              exact Jj11 _ h
            · refine G.iconst (1 : Int32) dX12_may_37 ki_1 ?_
              refine G.goto 42 dX12_may_38 (by decide) ?_
              refine G.sub (lv' := []) [] rfl ?_
              exact Jj11 _ h
-- OnlyUpwardModel.canPlan(II)Z
set_option maxRecDepth 100000 in
set_option maxHeartbeats 4000000 in
def F_X12_canPlan (n : Nat) (M : AM) (a0 : Nat) (a1 : Int32) (a2 : Int32) : Option Int32 :=
  (gI 12 62 M a0).bind fun v1 => if (30 : Int32) ≤ v1 then some (0 : Int32) else (F_X12_isHour n M a1).bind fun v3 => if v3 = 0 then some (0 : Int32) else (rcv 12 M a0 (F_X12_isPerson n M a0 a2)).bind fun v5 => if v5 = 0 then some (0 : Int32) else some (1 : Int32)
set_option maxRecDepth 100000 in
set_option maxHeartbeats 4000000 in
theorem C_X12_canPlan {n : Nat} {M : AM} {a0 : Nat} {a1 : Int32} {a2 : Int32} {o : Int32} (h : F_X12_canPlan n M a0 a1 a2 = some o) : Cn yX12_canPlan cX12_canPlan 3 (some .boolean) 2 [.ref a0, .int a1, .int a2] M (some (.int o)) M := by
  unfold F_X12_canPlan at h
  refine Cn.of rfl (Nat.le_of_ble_eq_true rfl) ?_
  show G yX12_canPlan cX12_canPlan 3 (some .boolean) 2 0 [(0, .ref a0), (1, .int a1), (2, .int a2)] [] M (some (.int o)) M
  refine G.aload_n dX12_canPlan_0 rfl rfl ?_
  refine G.getI dX12_canPlan_1 fkX12_308 fr12_62 h (fun v1 h => ?_)
  refine G.bipush (30 : Int32) dX12_canPlan_4 kb_30 ?_
  refine G.icmp_ge 28 dX12_canPlan_6 (by decide) h (fun c2 h => ?_) (fun c2 h => ?_)
  · refine G.iconst (0 : Int32) dX12_canPlan_28 ki_0 ?_
    exact G.iret dX12_canPlan_29 rfl (by decide) h
  · refine G.iload_n dX12_canPlan_9 rfl rfl ?_
    refine G.callSi [.int a1] [] dX12_canPlan_10 lkX12_418 okX12_isHour (fun v hv => C_X12_isHour hv) (Nat.le_of_ble_eq_true rfl) rfl rfl (Nat.le_of_ble_eq_true rfl) h (fun v3 h => ?_)
    refine G.if_eq 28 dX12_canPlan_13 (by decide) h (fun c4 h => ?_) (fun c4 h => ?_)
    · refine G.iconst (0 : Int32) dX12_canPlan_28 ki_0 ?_
      exact G.iret dX12_canPlan_29 rfl (by decide) h
    · refine G.aload_n dX12_canPlan_16 rfl rfl ?_
      refine G.iload_n dX12_canPlan_17 rfl rfl ?_
      refine G.callVi (ci := 12) [.int a2] [] dX12_canPlan_18 lkX12_415 okX12_isPerson rfl (fun v hv => C_X12_isPerson hv) (Nat.le_of_ble_eq_true rfl) rfl rfl (Nat.le_of_ble_eq_true rfl) h (fun v5 h => ?_)
      refine G.if_eq 28 dX12_canPlan_21 (by decide) h (fun c6 h => ?_) (fun c6 h => ?_)
      · refine G.iconst (0 : Int32) dX12_canPlan_28 ki_0 ?_
        exact G.iret dX12_canPlan_29 rfl (by decide) h
      · refine G.iconst (1 : Int32) dX12_canPlan_24 ki_1 ?_
        refine G.goto 29 dX12_canPlan_25 (by decide) ?_
        exact G.iret dX12_canPlan_29 rfl (by decide) h
-- OnlyUpwardModel.isThing(I)Z
set_option maxRecDepth 100000 in
set_option maxHeartbeats 4000000 in
def F_X12_isThing (n : Nat) (M : AM) (a0 : Nat) (a1 : Int32) : Option Int32 :=
  (rcv 12 M a0 (F_X12_has n M a0 (2 : Int32))).bind fun v1 => (F_X12_in n M a1 (0 : Int32) (v1 - (1 : Int32))).bind fun v2 => gd (narrow .boolean (.int v2) = .int v2) (some v2)
set_option maxRecDepth 100000 in
set_option maxHeartbeats 4000000 in
theorem C_X12_isThing {n : Nat} {M : AM} {a0 : Nat} {a1 : Int32} {o : Int32} (h : F_X12_isThing n M a0 a1 = some o) : Cn yX12_isThing cX12_isThing 2 (some .boolean) 1 [.ref a0, .int a1] M (some (.int o)) M := by
  unfold F_X12_isThing at h
  refine Cn.of rfl (Nat.le_of_ble_eq_true rfl) ?_
  show G yX12_isThing cX12_isThing 2 (some .boolean) 1 0 [(0, .ref a0), (1, .int a1)] [] M (some (.int o)) M
  refine G.iload_n dX12_isThing_0 rfl rfl ?_
  refine G.iconst (0 : Int32) dX12_isThing_1 ki_0 ?_
  refine G.aload_n dX12_isThing_2 rfl rfl ?_
  refine G.iconst (2 : Int32) dX12_isThing_3 ki_2 ?_
  refine G.callVi (ci := 12) [.int (2 : Int32)] [.int (0 : Int32), .int a1] dX12_isThing_4 lkX12_383 okX12_has rfl (fun v hv => C_X12_has hv) (Nat.le_of_ble_eq_true rfl) rfl rfl (Nat.le_of_ble_eq_true rfl) h (fun v1 h => ?_)
  refine G.iconst (1 : Int32) dX12_isThing_7 ki_1 ?_
  refine G.isub dX12_isThing_8 ?_
  refine G.callSi [.int a1, .int (0 : Int32), .int (v1 - (1 : Int32))] [] dX12_isThing_9 lkX12_386 okX12_in (fun v hv => C_X12_in hv) (Nat.le_of_ble_eq_true rfl) rfl rfl (Nat.le_of_ble_eq_true rfl) h (fun v2 h => ?_)
  refine gd_elim h (fun c3 h => ?_)
  exact G.iret dX12_isThing_12 rfl (c3) h
-- OnlyUpwardModel.plans(IIIII)I
set_option maxRecDepth 100000 in
set_option maxHeartbeats 4000000 in
def F_X12_plans (n : Nat) (M : AM) (a0 : Nat) (a1 : Int32) (a2 : Int32) (a3 : Int32) (a4 : Int32) (a5 : Int32) : Option (Int32 × AM) :=
  (gR 12 63 M a0).bind fun v1 => (gI 12 62 M a0).bind fun v2 => (wrI M v1 v2 a1).bind fun M3 => (gR 12 64 M3 a0).bind fun v4 => (gI 12 62 M3 a0).bind fun v5 => (wrI M3 v4 v5 a2).bind fun M6 => (gR 12 65 M6 a0).bind fun v7 => (gI 12 62 M6 a0).bind fun v8 => (wrI M6 v7 v8 a3).bind fun M9 => (gR 12 66 M9 a0).bind fun v10 => (gI 12 62 M9 a0).bind fun v11 => (wrI M9 v10 v11 a4).bind fun M12 => (gR 12 67 M12 a0).bind fun v13 => (gI 12 62 M12 a0).bind fun v14 => (wrI M12 v13 v14 a5).bind fun M15 => (gI 12 62 M15 a0).bind fun v16 => (pI 12 62 M15 a0 (v16 + (1 : Int32))).bind fun M17 => (gI 12 62 M17 a0).bind fun v18 => some ((v18 - (1 : Int32)), M17)
set_option maxRecDepth 100000 in
set_option maxHeartbeats 4000000 in
theorem C_X12_plans {n : Nat} {M : AM} {a0 : Nat} {a1 : Int32} {a2 : Int32} {a3 : Int32} {a4 : Int32} {a5 : Int32} {o : (Int32 × AM)} (h : F_X12_plans n M a0 a1 a2 a3 a4 a5 = some o) : Cn yX12_plans cX12_plans 6 (some .int) 0 [.ref a0, .int a1, .int a2, .int a3, .int a4, .int a5] M (some (.int o.1)) o.2 := by
  unfold F_X12_plans at h
  refine Cn.of rfl (Nat.le_of_ble_eq_true rfl) ?_
  show G yX12_plans cX12_plans 6 (some .int) 0 0 [(0, .ref a0), (1, .int a1), (2, .int a2), (3, .int a3), (4, .int a4), (5, .int a5)] [] M (some (.int o.1)) o.2
  refine G.aload_n dX12_plans_0 rfl rfl ?_
  refine G.getR dX12_plans_1 fkX12_149 fr12_63 h (fun v1 h => ?_)
  refine G.aload_n dX12_plans_4 rfl rfl ?_
  refine G.getI dX12_plans_5 fkX12_308 fr12_62 h (fun v2 h => ?_)
  refine G.iload_n dX12_plans_8 rfl rfl ?_
  refine G.iast dX12_plans_9 h (fun M3 h => ?_)
  refine G.aload_n dX12_plans_10 rfl rfl ?_
  refine G.getR dX12_plans_11 fkX12_152 fr12_64 h (fun v4 h => ?_)
  refine G.aload_n dX12_plans_14 rfl rfl ?_
  refine G.getI dX12_plans_15 fkX12_308 fr12_62 h (fun v5 h => ?_)
  refine G.iload_n dX12_plans_18 rfl rfl ?_
  refine G.iast dX12_plans_19 h (fun M6 h => ?_)
  refine G.aload_n dX12_plans_20 rfl rfl ?_
  refine G.getR dX12_plans_21 fkX12_155 fr12_65 h (fun v7 h => ?_)
  refine G.aload_n dX12_plans_24 rfl rfl ?_
  refine G.getI dX12_plans_25 fkX12_308 fr12_62 h (fun v8 h => ?_)
  refine G.iload_n dX12_plans_28 rfl rfl ?_
  refine G.iast dX12_plans_29 h (fun M9 h => ?_)
  refine G.aload_n dX12_plans_30 rfl rfl ?_
  refine G.getR dX12_plans_31 fkX12_158 fr12_66 h (fun v10 h => ?_)
  refine G.aload_n dX12_plans_34 rfl rfl ?_
  refine G.getI dX12_plans_35 fkX12_308 fr12_62 h (fun v11 h => ?_)
  refine G.iload dX12_plans_38 rfl ?_
  refine G.iast dX12_plans_40 h (fun M12 h => ?_)
  refine G.aload_n dX12_plans_41 rfl rfl ?_
  refine G.getR dX12_plans_42 fkX12_161 fr12_67 h (fun v13 h => ?_)
  refine G.aload_n dX12_plans_45 rfl rfl ?_
  refine G.getI dX12_plans_46 fkX12_308 fr12_62 h (fun v14 h => ?_)
  refine G.iload dX12_plans_49 rfl ?_
  refine G.iast dX12_plans_51 h (fun M15 h => ?_)
  refine G.aload_n dX12_plans_52 rfl rfl ?_
  refine G.dup dX12_plans_53 rfl ?_
  refine G.getI dX12_plans_54 fkX12_308 fr12_62 h (fun v16 h => ?_)
  refine G.iconst (1 : Int32) dX12_plans_57 ki_1 ?_
  refine G.iadd dX12_plans_58 ?_
  refine G.putI dX12_plans_59 fkX12_308 nf12_62 ft12_62 h (fun M17 h => ?_)
  refine G.aload_n dX12_plans_62 rfl rfl ?_
  refine G.getI dX12_plans_63 fkX12_308 fr12_62 h (fun v18 h => ?_)
  refine G.iconst (1 : Int32) dX12_plans_66 ki_1 ?_
  refine G.isub dX12_plans_67 ?_
  exact G.iretW dX12_plans_68 rfl (rfl) h
-- OnlyUpwardModel.say(IIII)I
set_option maxRecDepth 100000 in
set_option maxHeartbeats 4000000 in
def F_X12_say (n : Nat) (M : AM) (a0 : Nat) (a1 : Int32) (a2 : Int32) (a3 : Int32) (a4 : Int32) : Option (Int32 × AM) :=
  (rcv 12 M a0 (F_X12_canPlan n M a0 a1 a2)).bind fun v1 => if v1 = 0 then some ((-1 : Int32), M) else (rcv 12 M a0 (F_X12_isPerson n M a0 a3)).bind fun v3 => if v3 = 0 then some ((-1 : Int32), M) else if a2 = a3 then some ((-1 : Int32), M) else (rcv 12 M a0 (F_X12_isThing n M a0 a4)).bind fun v6 => if v6 = 0 then some ((-1 : Int32), M) else (rcv 12 M a0 (F_X12_plans n M a0 (0 : Int32) a1 a2 a3 a4)).bind fun v8 => some (v8.1, v8.2)
set_option maxRecDepth 100000 in
set_option maxHeartbeats 4000000 in
theorem C_X12_say {n : Nat} {M : AM} {a0 : Nat} {a1 : Int32} {a2 : Int32} {a3 : Int32} {a4 : Int32} {o : (Int32 × AM)} (h : F_X12_say n M a0 a1 a2 a3 a4 = some o) : Cn yX12_say cX12_say 5 (some .int) 3 [.ref a0, .int a1, .int a2, .int a3, .int a4] M (some (.int o.1)) o.2 := by
  unfold F_X12_say at h
  refine Cn.of rfl (Nat.le_of_ble_eq_true rfl) ?_
  show G yX12_say cX12_say 5 (some .int) 3 0 [(0, .ref a0), (1, .int a1), (2, .int a2), (3, .int a3), (4, .int a4)] [] M (some (.int o.1)) o.2
  refine G.aload_n dX12_say_0 rfl rfl ?_
  refine G.iload_n dX12_say_1 rfl rfl ?_
  refine G.iload_n dX12_say_2 rfl rfl ?_
  refine G.callVi (ci := 12) [.int a1, .int a2] [] dX12_say_3 lkX12_431 okX12_canPlan rfl (fun v hv => C_X12_canPlan hv) (Nat.le_of_ble_eq_true rfl) rfl rfl (Nat.le_of_ble_eq_true rfl) h (fun v1 h => ?_)
  refine G.if_eq 44 dX12_say_6 (by decide) h (fun c2 h => ?_) (fun c2 h => ?_)
  · refine G.iconst (-1 : Int32) dX12_say_44 ki_m1 ?_
    exact G.iretW dX12_say_45 rfl (rfl) h
  · refine G.aload_n dX12_say_9 rfl rfl ?_
    refine G.iload_n dX12_say_10 rfl rfl ?_
    refine G.callVi (ci := 12) [.int a3] [] dX12_say_11 lkX12_415 okX12_isPerson rfl (fun v hv => C_X12_isPerson hv) (Nat.le_of_ble_eq_true rfl) rfl rfl (Nat.le_of_ble_eq_true rfl) h (fun v3 h => ?_)
    refine G.if_eq 44 dX12_say_14 (by decide) h (fun c4 h => ?_) (fun c4 h => ?_)
    · refine G.iconst (-1 : Int32) dX12_say_44 ki_m1 ?_
      exact G.iretW dX12_say_45 rfl (rfl) h
    · refine G.iload_n dX12_say_17 rfl rfl ?_
      refine G.iload_n dX12_say_18 rfl rfl ?_
      refine G.icmp_eq 44 dX12_say_19 (by decide) h (fun c5 h => ?_) (fun c5 h => ?_)
      · refine G.iconst (-1 : Int32) dX12_say_44 ki_m1 ?_
        exact G.iretW dX12_say_45 rfl (rfl) h
      · refine G.aload_n dX12_say_22 rfl rfl ?_
        refine G.iload dX12_say_23 rfl ?_
        refine G.callVi (ci := 12) [.int a4] [] dX12_say_25 lkX12_434 okX12_isThing rfl (fun v hv => C_X12_isThing hv) (Nat.le_of_ble_eq_true rfl) rfl rfl (Nat.le_of_ble_eq_true rfl) h (fun v6 h => ?_)
        refine G.if_eq 44 dX12_say_28 (by decide) h (fun c7 h => ?_) (fun c7 h => ?_)
        · refine G.iconst (-1 : Int32) dX12_say_44 ki_m1 ?_
          exact G.iretW dX12_say_45 rfl (rfl) h
        · refine G.aload_n dX12_say_31 rfl rfl ?_
          refine G.iconst (0 : Int32) dX12_say_32 ki_0 ?_
          refine G.iload_n dX12_say_33 rfl rfl ?_
          refine G.iload_n dX12_say_34 rfl rfl ?_
          refine G.iload_n dX12_say_35 rfl rfl ?_
          refine G.iload dX12_say_36 rfl ?_
          refine G.callVi (ci := 12) [.int (0 : Int32), .int a1, .int a2, .int a3, .int a4] [] dX12_say_38 lkX12_437 okX12_plans rfl (fun v hv => C_X12_plans hv) (Nat.le_of_ble_eq_true rfl) rfl rfl (Nat.le_of_ble_eq_true rfl) h (fun v8 h => ?_)
          refine G.goto 45 dX12_say_41 (by decide) ?_
          exact G.iretW dX12_say_45 rfl (rfl) h
-- OnlyUpwardModel.isAct(I)Z
set_option maxRecDepth 100000 in
set_option maxHeartbeats 4000000 in
def F_X12_isAct (n : Nat) (M : AM) (a0 : Nat) (a1 : Int32) : Option Int32 :=
  (rcv 12 M a0 (F_X12_has n M a0 (7 : Int32))).bind fun v1 => (F_X12_in n M a1 (0 : Int32) (v1 - (1 : Int32))).bind fun v2 => gd (narrow .boolean (.int v2) = .int v2) (some v2)
set_option maxRecDepth 100000 in
set_option maxHeartbeats 4000000 in
theorem C_X12_isAct {n : Nat} {M : AM} {a0 : Nat} {a1 : Int32} {o : Int32} (h : F_X12_isAct n M a0 a1 = some o) : Cn yX12_isAct cX12_isAct 2 (some .boolean) 1 [.ref a0, .int a1] M (some (.int o)) M := by
  unfold F_X12_isAct at h
  refine Cn.of rfl (Nat.le_of_ble_eq_true rfl) ?_
  show G yX12_isAct cX12_isAct 2 (some .boolean) 1 0 [(0, .ref a0), (1, .int a1)] [] M (some (.int o)) M
  refine G.iload_n dX12_isAct_0 rfl rfl ?_
  refine G.iconst (0 : Int32) dX12_isAct_1 ki_0 ?_
  refine G.aload_n dX12_isAct_2 rfl rfl ?_
  refine G.bipush (7 : Int32) dX12_isAct_3 kb_7 ?_
  refine G.callVi (ci := 12) [.int (7 : Int32)] [.int (0 : Int32), .int a1] dX12_isAct_5 lkX12_383 okX12_has rfl (fun v hv => C_X12_has hv) (Nat.le_of_ble_eq_true rfl) rfl rfl (Nat.le_of_ble_eq_true rfl) h (fun v1 h => ?_)
  refine G.iconst (1 : Int32) dX12_isAct_8 ki_1 ?_
  refine G.isub dX12_isAct_9 ?_
  refine G.callSi [.int a1, .int (0 : Int32), .int (v1 - (1 : Int32))] [] dX12_isAct_10 lkX12_386 okX12_in (fun v hv => C_X12_in hv) (Nat.le_of_ble_eq_true rfl) rfl rfl (Nat.le_of_ble_eq_true rfl) h (fun v2 h => ?_)
  refine gd_elim h (fun c3 h => ?_)
  exact G.iret dX12_isAct_13 rfl (c3) h
-- OnlyUpwardModel.show(III)I
set_option maxRecDepth 100000 in
set_option maxHeartbeats 4000000 in
def F_X12_show (n : Nat) (M : AM) (a0 : Nat) (a1 : Int32) (a2 : Int32) (a3 : Int32) : Option (Int32 × AM) :=
  (rcv 12 M a0 (F_X12_canPlan n M a0 a1 a2)).bind fun v1 => if v1 = 0 then some ((-1 : Int32), M) else (rcv 12 M a0 (F_X12_isAct n M a0 a3)).bind fun v3 => if v3 = 0 then some ((-1 : Int32), M) else (gR 12 40 M a0).bind fun v5 => (gI 12 18 M a0).bind fun v6 => (rdI M v5 (((6 : Int32) * v6) + a3)).bind fun v7 => (rcv 12 M a0 (F_X12_plans n M a0 (1 : Int32) a1 a2 a3 v7)).bind fun v8 => some (v8.1, v8.2)
set_option maxRecDepth 100000 in
set_option maxHeartbeats 4000000 in
theorem C_X12_show {n : Nat} {M : AM} {a0 : Nat} {a1 : Int32} {a2 : Int32} {a3 : Int32} {o : (Int32 × AM)} (h : F_X12_show n M a0 a1 a2 a3 = some o) : Cn yX12_show cX12_show 4 (some .int) 3 [.ref a0, .int a1, .int a2, .int a3] M (some (.int o.1)) o.2 := by
  unfold F_X12_show at h
  refine Cn.of rfl (Nat.le_of_ble_eq_true rfl) ?_
  show G yX12_show cX12_show 4 (some .int) 3 0 [(0, .ref a0), (1, .int a1), (2, .int a2), (3, .int a3)] [] M (some (.int o.1)) o.2
  refine G.aload_n dX12_show_0 rfl rfl ?_
  refine G.iload_n dX12_show_1 rfl rfl ?_
  refine G.iload_n dX12_show_2 rfl rfl ?_
  refine G.callVi (ci := 12) [.int a1, .int a2] [] dX12_show_3 lkX12_431 okX12_canPlan rfl (fun v hv => C_X12_canPlan hv) (Nat.le_of_ble_eq_true rfl) rfl rfl (Nat.le_of_ble_eq_true rfl) h (fun v1 h => ?_)
  refine G.if_eq 42 dX12_show_6 (by decide) h (fun c2 h => ?_) (fun c2 h => ?_)
  · refine G.iconst (-1 : Int32) dX12_show_42 ki_m1 ?_
    exact G.iretW dX12_show_43 rfl (rfl) h
  · refine G.aload_n dX12_show_9 rfl rfl ?_
    refine G.iload_n dX12_show_10 rfl rfl ?_
    refine G.callVi (ci := 12) [.int a3] [] dX12_show_11 lkX12_441 okX12_isAct rfl (fun v hv => C_X12_isAct hv) (Nat.le_of_ble_eq_true rfl) rfl rfl (Nat.le_of_ble_eq_true rfl) h (fun v3 h => ?_)
    refine G.if_eq 42 dX12_show_14 (by decide) h (fun c4 h => ?_) (fun c4 h => ?_)
    · refine G.iconst (-1 : Int32) dX12_show_42 ki_m1 ?_
      exact G.iretW dX12_show_43 rfl (rfl) h
    · refine G.aload_n dX12_show_17 rfl rfl ?_
      refine G.iconst (1 : Int32) dX12_show_18 ki_1 ?_
      refine G.iload_n dX12_show_19 rfl rfl ?_
      refine G.iload_n dX12_show_20 rfl rfl ?_
      refine G.iload_n dX12_show_21 rfl rfl ?_
      refine G.aload_n dX12_show_22 rfl rfl ?_
      refine G.getR dX12_show_23 fkX12_97 fr12_40 h (fun v5 h => ?_)
      refine G.bipush (6 : Int32) dX12_show_26 kb_6 ?_
      refine G.aload_n dX12_show_28 rfl rfl ?_
      refine G.getI dX12_show_29 fkX12_290 fr12_18 h (fun v6 h => ?_)
      refine G.imul dX12_show_32 ?_
      refine G.iload_n dX12_show_33 rfl rfl ?_
      refine G.iadd dX12_show_34 ?_
      refine G.iald dX12_show_35 h (fun v7 h => ?_)
      refine G.callVi (ci := 12) [.int (1 : Int32), .int a1, .int a2, .int a3, .int v7] [] dX12_show_36 lkX12_437 okX12_plans rfl (fun v hv => C_X12_plans hv) (Nat.le_of_ble_eq_true rfl) rfl rfl (Nat.le_of_ble_eq_true rfl) h (fun v8 h => ?_)
      refine G.goto 43 dX12_show_39 (by decide) ?_
      exact G.iretW dX12_show_43 rfl (rfl) h
-- OnlyUpwardModel.leave(III)I
set_option maxRecDepth 100000 in
set_option maxHeartbeats 4000000 in
def F_X12_leave (n : Nat) (M : AM) (a0 : Nat) (a1 : Int32) (a2 : Int32) (a3 : Int32) : Option (Int32 × AM) :=
  (rcv 12 M a0 (F_X12_canPlan n M a0 a1 a2)).bind fun v1 => if v1 = 0 then some ((-1 : Int32), M) else (rcv 12 M a0 (F_X12_isThing n M a0 a3)).bind fun v3 => if v3 = 0 then some ((-1 : Int32), M) else (rcv 12 M a0 (F_X12_plans n M a0 (2 : Int32) a1 a2 (-1 : Int32) a3)).bind fun v5 => some (v5.1, v5.2)
set_option maxRecDepth 100000 in
set_option maxHeartbeats 4000000 in
theorem C_X12_leave {n : Nat} {M : AM} {a0 : Nat} {a1 : Int32} {a2 : Int32} {a3 : Int32} {o : (Int32 × AM)} (h : F_X12_leave n M a0 a1 a2 a3 = some o) : Cn yX12_leave cX12_leave 4 (some .int) 3 [.ref a0, .int a1, .int a2, .int a3] M (some (.int o.1)) o.2 := by
  unfold F_X12_leave at h
  refine Cn.of rfl (Nat.le_of_ble_eq_true rfl) ?_
  show G yX12_leave cX12_leave 4 (some .int) 3 0 [(0, .ref a0), (1, .int a1), (2, .int a2), (3, .int a3)] [] M (some (.int o.1)) o.2
  refine G.aload_n dX12_leave_0 rfl rfl ?_
  refine G.iload_n dX12_leave_1 rfl rfl ?_
  refine G.iload_n dX12_leave_2 rfl rfl ?_
  refine G.callVi (ci := 12) [.int a1, .int a2] [] dX12_leave_3 lkX12_431 okX12_canPlan rfl (fun v hv => C_X12_canPlan hv) (Nat.le_of_ble_eq_true rfl) rfl rfl (Nat.le_of_ble_eq_true rfl) h (fun v1 h => ?_)
  refine G.if_eq 29 dX12_leave_6 (by decide) h (fun c2 h => ?_) (fun c2 h => ?_)
  · refine G.iconst (-1 : Int32) dX12_leave_29 ki_m1 ?_
    exact G.iretW dX12_leave_30 rfl (rfl) h
  · refine G.aload_n dX12_leave_9 rfl rfl ?_
    refine G.iload_n dX12_leave_10 rfl rfl ?_
    refine G.callVi (ci := 12) [.int a3] [] dX12_leave_11 lkX12_434 okX12_isThing rfl (fun v hv => C_X12_isThing hv) (Nat.le_of_ble_eq_true rfl) rfl rfl (Nat.le_of_ble_eq_true rfl) h (fun v3 h => ?_)
    refine G.if_eq 29 dX12_leave_14 (by decide) h (fun c4 h => ?_) (fun c4 h => ?_)
    · refine G.iconst (-1 : Int32) dX12_leave_29 ki_m1 ?_
      exact G.iretW dX12_leave_30 rfl (rfl) h
    · refine G.aload_n dX12_leave_17 rfl rfl ?_
      refine G.iconst (2 : Int32) dX12_leave_18 ki_2 ?_
      refine G.iload_n dX12_leave_19 rfl rfl ?_
      refine G.iload_n dX12_leave_20 rfl rfl ?_
      refine G.iconst (-1 : Int32) dX12_leave_21 ki_m1 ?_
      refine G.iload_n dX12_leave_22 rfl rfl ?_
      refine G.callVi (ci := 12) [.int (2 : Int32), .int a1, .int a2, .int (-1 : Int32), .int a3] [] dX12_leave_23 lkX12_437 okX12_plans rfl (fun v hv => C_X12_plans hv) (Nat.le_of_ble_eq_true rfl) rfl rfl (Nat.le_of_ble_eq_true rfl) h (fun v5 h => ?_)
      refine G.goto 30 dX12_leave_26 (by decide) ?_
      exact G.iretW dX12_leave_30 rfl (rfl) h
-- OnlyUpwardModel.ask(IIII)I
set_option maxRecDepth 100000 in
set_option maxHeartbeats 4000000 in
def F_X12_ask (n : Nat) (M : AM) (a0 : Nat) (a1 : Int32) (a2 : Int32) (a3 : Int32) (a4 : Int32) : Option (Int32 × AM) :=
  (rcv 12 M a0 (F_X12_canPlan n M a0 a1 a2)).bind fun v1 => if v1 = 0 then some ((-1 : Int32), M) else (rcv 12 M a0 (F_X12_isPerson n M a0 a3)).bind fun v3 => if v3 = 0 then some ((-1 : Int32), M) else if a2 = a3 then some ((-1 : Int32), M) else (rcv 12 M a0 (F_X12_isThing n M a0 a4)).bind fun v6 => if v6 = 0 then some ((-1 : Int32), M) else (rcv 12 M a0 (F_X12_plans n M a0 (3 : Int32) a1 a2 a3 a4)).bind fun v8 => some (v8.1, v8.2)
set_option maxRecDepth 100000 in
set_option maxHeartbeats 4000000 in
theorem C_X12_ask {n : Nat} {M : AM} {a0 : Nat} {a1 : Int32} {a2 : Int32} {a3 : Int32} {a4 : Int32} {o : (Int32 × AM)} (h : F_X12_ask n M a0 a1 a2 a3 a4 = some o) : Cn yX12_ask cX12_ask 5 (some .int) 3 [.ref a0, .int a1, .int a2, .int a3, .int a4] M (some (.int o.1)) o.2 := by
  unfold F_X12_ask at h
  refine Cn.of rfl (Nat.le_of_ble_eq_true rfl) ?_
  show G yX12_ask cX12_ask 5 (some .int) 3 0 [(0, .ref a0), (1, .int a1), (2, .int a2), (3, .int a3), (4, .int a4)] [] M (some (.int o.1)) o.2
  refine G.aload_n dX12_ask_0 rfl rfl ?_
  refine G.iload_n dX12_ask_1 rfl rfl ?_
  refine G.iload_n dX12_ask_2 rfl rfl ?_
  refine G.callVi (ci := 12) [.int a1, .int a2] [] dX12_ask_3 lkX12_431 okX12_canPlan rfl (fun v hv => C_X12_canPlan hv) (Nat.le_of_ble_eq_true rfl) rfl rfl (Nat.le_of_ble_eq_true rfl) h (fun v1 h => ?_)
  refine G.if_eq 44 dX12_ask_6 (by decide) h (fun c2 h => ?_) (fun c2 h => ?_)
  · refine G.iconst (-1 : Int32) dX12_ask_44 ki_m1 ?_
    exact G.iretW dX12_ask_45 rfl (rfl) h
  · refine G.aload_n dX12_ask_9 rfl rfl ?_
    refine G.iload_n dX12_ask_10 rfl rfl ?_
    refine G.callVi (ci := 12) [.int a3] [] dX12_ask_11 lkX12_415 okX12_isPerson rfl (fun v hv => C_X12_isPerson hv) (Nat.le_of_ble_eq_true rfl) rfl rfl (Nat.le_of_ble_eq_true rfl) h (fun v3 h => ?_)
    refine G.if_eq 44 dX12_ask_14 (by decide) h (fun c4 h => ?_) (fun c4 h => ?_)
    · refine G.iconst (-1 : Int32) dX12_ask_44 ki_m1 ?_
      exact G.iretW dX12_ask_45 rfl (rfl) h
    · refine G.iload_n dX12_ask_17 rfl rfl ?_
      refine G.iload_n dX12_ask_18 rfl rfl ?_
      refine G.icmp_eq 44 dX12_ask_19 (by decide) h (fun c5 h => ?_) (fun c5 h => ?_)
      · refine G.iconst (-1 : Int32) dX12_ask_44 ki_m1 ?_
        exact G.iretW dX12_ask_45 rfl (rfl) h
      · refine G.aload_n dX12_ask_22 rfl rfl ?_
        refine G.iload dX12_ask_23 rfl ?_
        refine G.callVi (ci := 12) [.int a4] [] dX12_ask_25 lkX12_434 okX12_isThing rfl (fun v hv => C_X12_isThing hv) (Nat.le_of_ble_eq_true rfl) rfl rfl (Nat.le_of_ble_eq_true rfl) h (fun v6 h => ?_)
        refine G.if_eq 44 dX12_ask_28 (by decide) h (fun c7 h => ?_) (fun c7 h => ?_)
        · refine G.iconst (-1 : Int32) dX12_ask_44 ki_m1 ?_
          exact G.iretW dX12_ask_45 rfl (rfl) h
        · refine G.aload_n dX12_ask_31 rfl rfl ?_
          refine G.iconst (3 : Int32) dX12_ask_32 ki_3 ?_
          refine G.iload_n dX12_ask_33 rfl rfl ?_
          refine G.iload_n dX12_ask_34 rfl rfl ?_
          refine G.iload_n dX12_ask_35 rfl rfl ?_
          refine G.iload dX12_ask_36 rfl ?_
          refine G.callVi (ci := 12) [.int (3 : Int32), .int a1, .int a2, .int a3, .int a4] [] dX12_ask_38 lkX12_437 okX12_plans rfl (fun v hv => C_X12_plans hv) (Nat.le_of_ble_eq_true rfl) rfl rfl (Nat.le_of_ble_eq_true rfl) h (fun v8 h => ?_)
          refine G.goto 45 dX12_ask_41 (by decide) ?_
          exact G.iretW dX12_ask_45 rfl (rfl) h
-- OnlyUpwardModel.drop(I)I
set_option maxRecDepth 100000 in
set_option maxHeartbeats 4000000 in
def F_X12_drop (n : Nat) (M : AM) (a0 : Nat) (a1 : Int32) : Option (Int32 × AM) :=
  (gI 12 62 M a0).bind fun v1 => (F_X12_in n M a1 (0 : Int32) (v1 - (1 : Int32))).bind fun v2 => if v2 = 0 then some ((-1 : Int32), M) else (gI 12 62 M a0).bind fun v4 => (pI 12 62 M a0 (v4 - (1 : Int32))).bind fun M5 => (iter (fun (s6 : Int32 × AM) => (gI 12 62 s6.2 a0).bind fun v7 => if v7 ≤ s6.1 then some (.inr s6.2) else (gR 12 63 s6.2 a0).bind fun v9 => (gR 12 63 s6.2 a0).bind fun v10 => (rdI s6.2 v10 (s6.1 + (1 : Int32))).bind fun v11 => (wrI s6.2 v9 s6.1 v11).bind fun M12 => (gR 12 64 M12 a0).bind fun v13 => (gR 12 64 M12 a0).bind fun v14 => (rdI M12 v14 (s6.1 + (1 : Int32))).bind fun v15 => (wrI M12 v13 s6.1 v15).bind fun M16 => (gR 12 65 M16 a0).bind fun v17 => (gR 12 65 M16 a0).bind fun v18 => (rdI M16 v18 (s6.1 + (1 : Int32))).bind fun v19 => (wrI M16 v17 s6.1 v19).bind fun M20 => (gR 12 66 M20 a0).bind fun v21 => (gR 12 66 M20 a0).bind fun v22 => (rdI M20 v22 (s6.1 + (1 : Int32))).bind fun v23 => (wrI M20 v21 s6.1 v23).bind fun M24 => (gR 12 67 M24 a0).bind fun v25 => (gR 12 67 M24 a0).bind fun v26 => (rdI M24 v26 (s6.1 + (1 : Int32))).bind fun v27 => (wrI M24 v25 s6.1 v27).bind fun M28 => some (.inl ((s6.1 + (1 : Int32)), M28))) n (a1, M5)).bind fun (e6 : AM) => (gI 12 62 e6 a0).bind fun v29 => some (v29, e6)
set_option maxRecDepth 100000 in
set_option maxHeartbeats 4000000 in
theorem C_X12_drop {n : Nat} {M : AM} {a0 : Nat} {a1 : Int32} {o : (Int32 × AM)} (h : F_X12_drop n M a0 a1 = some o) : Cn yX12_drop cX12_drop 3 (some .int) 1 [.ref a0, .int a1] M (some (.int o.1)) o.2 := by
  unfold F_X12_drop at h
  refine Cn.of rfl (Nat.le_of_ble_eq_true rfl) ?_
  show G yX12_drop cX12_drop 3 (some .int) 1 0 [(0, .ref a0), (1, .int a1)] [] M (some (.int o.1)) o.2
  refine G.iload_n dX12_drop_0 rfl rfl ?_
  refine G.iconst (0 : Int32) dX12_drop_1 ki_0 ?_
  refine G.aload_n dX12_drop_2 rfl rfl ?_
  refine G.getI dX12_drop_3 fkX12_308 fr12_62 h (fun v1 h => ?_)
  refine G.iconst (1 : Int32) dX12_drop_6 ki_1 ?_
  refine G.isub dX12_drop_7 ?_
  refine G.callSi [.int a1, .int (0 : Int32), .int (v1 - (1 : Int32))] [] dX12_drop_8 lkX12_386 okX12_in (fun v hv => C_X12_in hv) (Nat.le_of_ble_eq_true rfl) rfl rfl (Nat.le_of_ble_eq_true rfl) h (fun v2 h => ?_)
  refine G.if_ne 16 dX12_drop_11 (by decide) h (fun c3 h => ?_) (fun c3 h => ?_)
  · refine G.iconst (-1 : Int32) dX12_drop_14 ki_m1 ?_
    exact G.iretW dX12_drop_15 rfl (rfl) h
  · refine G.aload_n dX12_drop_16 rfl rfl ?_
    refine G.dup dX12_drop_17 rfl ?_
    refine G.getI dX12_drop_18 fkX12_308 fr12_62 h (fun v4 h => ?_)
    refine G.iconst (1 : Int32) dX12_drop_21 ki_1 ?_
    refine G.isub dX12_drop_22 ?_
    refine G.putI dX12_drop_23 fkX12_308 nf12_62 ft12_62 h (fun M5 h => ?_)
    refine G.iload_n dX12_drop_26 rfl rfl ?_
    refine G.istore_n (lv' := [(2, .int a1), (0, .ref a0), (1, .int a1)]) dX12_drop_27 rfl (Nat.le_of_ble_eq_true rfl) rfl ?_
    refine G.sub (lv' := [(0, .ref a0), (2, .int a1)]) [1, 0] rfl ?_
    refine loopE (fun (s6 : Int32 × AM) => G yX12_drop cX12_drop 3 (some .int) 1 28 [(0, .ref a0), (2, .int s6.1)] [] s6.2 (some (.int o.1)) o.2) (fun (e6 : AM) => G yX12_drop cX12_drop 3 (some .int) 1 112 [(0, .ref a0)] [] e6 (some (.int o.1)) o.2) h ?_ ?_
    · intro e6 h
      show G yX12_drop cX12_drop 3 (some .int) 1 112 [(0, .ref a0)] [] e6 (some (.int o.1)) o.2
      refine G.aload_n dX12_drop_112 rfl rfl ?_
      refine G.getI dX12_drop_113 fkX12_308 fr12_62 h (fun v29 h => ?_)
      exact G.iretW dX12_drop_116 rfl (rfl) h
    · intro s6 x6 h K6
      show G yX12_drop cX12_drop 3 (some .int) 1 28 [(0, .ref a0), (2, .int s6.1)] [] s6.2 (some (.int o.1)) o.2
      refine G.iload_n dX12_drop_28 rfl rfl ?_
      refine G.aload_n dX12_drop_29 rfl rfl ?_
      refine G.getI dX12_drop_30 fkX12_308 fr12_62 h (fun v7 h => ?_)
      refine G.icmp_ge 112 dX12_drop_33 (by decide) h (fun c8 h => ?_) (fun c8 h => ?_)
      · refine G.sub (lv' := [(0, .ref a0)]) [0] rfl ?_
        have h := leafR' h K6
        exact h
      · refine G.aload_n dX12_drop_36 rfl rfl ?_
        refine G.getR dX12_drop_37 fkX12_149 fr12_63 h (fun v9 h => ?_)
        refine G.iload_n dX12_drop_40 rfl rfl ?_
        refine G.aload_n dX12_drop_41 rfl rfl ?_
        refine G.getR dX12_drop_42 fkX12_149 fr12_63 h (fun v10 h => ?_)
        refine G.iload_n dX12_drop_45 rfl rfl ?_
        refine G.iconst (1 : Int32) dX12_drop_46 ki_1 ?_
        refine G.iadd dX12_drop_47 ?_
        refine G.iald dX12_drop_48 h (fun v11 h => ?_)
        refine G.iast dX12_drop_49 h (fun M12 h => ?_)
        refine G.aload_n dX12_drop_50 rfl rfl ?_
        refine G.getR dX12_drop_51 fkX12_152 fr12_64 h (fun v13 h => ?_)
        refine G.iload_n dX12_drop_54 rfl rfl ?_
        refine G.aload_n dX12_drop_55 rfl rfl ?_
        refine G.getR dX12_drop_56 fkX12_152 fr12_64 h (fun v14 h => ?_)
        refine G.iload_n dX12_drop_59 rfl rfl ?_
        refine G.iconst (1 : Int32) dX12_drop_60 ki_1 ?_
        refine G.iadd dX12_drop_61 ?_
        refine G.iald dX12_drop_62 h (fun v15 h => ?_)
        refine G.iast dX12_drop_63 h (fun M16 h => ?_)
        refine G.aload_n dX12_drop_64 rfl rfl ?_
        refine G.getR dX12_drop_65 fkX12_155 fr12_65 h (fun v17 h => ?_)
        refine G.iload_n dX12_drop_68 rfl rfl ?_
        refine G.aload_n dX12_drop_69 rfl rfl ?_
        refine G.getR dX12_drop_70 fkX12_155 fr12_65 h (fun v18 h => ?_)
        refine G.iload_n dX12_drop_73 rfl rfl ?_
        refine G.iconst (1 : Int32) dX12_drop_74 ki_1 ?_
        refine G.iadd dX12_drop_75 ?_
        refine G.iald dX12_drop_76 h (fun v19 h => ?_)
        refine G.iast dX12_drop_77 h (fun M20 h => ?_)
        refine G.aload_n dX12_drop_78 rfl rfl ?_
        refine G.getR dX12_drop_79 fkX12_158 fr12_66 h (fun v21 h => ?_)
        refine G.iload_n dX12_drop_82 rfl rfl ?_
        refine G.aload_n dX12_drop_83 rfl rfl ?_
        refine G.getR dX12_drop_84 fkX12_158 fr12_66 h (fun v22 h => ?_)
        refine G.iload_n dX12_drop_87 rfl rfl ?_
        refine G.iconst (1 : Int32) dX12_drop_88 ki_1 ?_
        refine G.iadd dX12_drop_89 ?_
        refine G.iald dX12_drop_90 h (fun v23 h => ?_)
        refine G.iast dX12_drop_91 h (fun M24 h => ?_)
        refine G.aload_n dX12_drop_92 rfl rfl ?_
        refine G.getR dX12_drop_93 fkX12_161 fr12_67 h (fun v25 h => ?_)
        refine G.iload_n dX12_drop_96 rfl rfl ?_
        refine G.aload_n dX12_drop_97 rfl rfl ?_
        refine G.getR dX12_drop_98 fkX12_161 fr12_67 h (fun v26 h => ?_)
        refine G.iload_n dX12_drop_101 rfl rfl ?_
        refine G.iconst (1 : Int32) dX12_drop_102 ki_1 ?_
        refine G.iadd dX12_drop_103 ?_
        refine G.iald dX12_drop_104 h (fun v27 h => ?_)
        refine G.iast dX12_drop_105 h (fun M28 h => ?_)
        refine G.iinc s6.1 (w := (s6.1 + (1 : Int32))) (lv' := [(2, .int (s6.1 + (1 : Int32))), (0, .ref a0)]) dX12_drop_106 rfl rfl (Nat.le_of_ble_eq_true rfl) rfl ?_
        refine G.goto 28 dX12_drop_109 (by decide) ?_
        refine G.sub (lv' := [(0, .ref a0), (2, .int (s6.1 + (1 : Int32)))]) [1, 0] rfl ?_
        have h := leafL' h K6
        exact h
-- OnlyUpwardModel.startsKnowing()V
set_option maxRecDepth 100000 in
set_option maxHeartbeats 4000000 in
def F_X12_startsKnowing (n : Nat) (M : AM) (a0 : Nat) : Option AM :=
  (iter (fun (s1 : Int32 × AM) => if (250 : Int32) ≤ s1.1 then some (.inr s1.2) else (gR 12 68 s1.2 a0).bind fun v3 => (wrI s1.2 v3 s1.1 (0 : Int32)).bind fun M4 => some (.inl ((s1.1 + (1 : Int32)), M4))) n ((0 : Int32), M)).bind fun (e1 : AM) => (iter (fun (s5 : Int32 × AM) => (rcv 12 s5.2 a0 (F_X12_has n s5.2 a0 (5 : Int32))).bind fun v6 => if v6 ≤ s5.1 then some (.inr s5.2) else (gR 12 68 s5.2 a0).bind fun v8 => (gR 12 35 s5.2 a0).bind fun v9 => (gI 12 18 s5.2 a0).bind fun v10 => (rdI s5.2 v9 (((12 : Int32) * v10) + s5.1)).bind fun v11 => (rdI s5.2 v8 v11).bind fun v12 => (gR 12 36 s5.2 a0).bind fun v13 => (gI 12 18 s5.2 a0).bind fun v14 => (rdI s5.2 v13 (((12 : Int32) * v14) + s5.1)).bind fun v15 => (wrI s5.2 v8 v11 (v12 ||| ((1 : Int32) <<< (v15 &&& 31)))).bind fun M16 => some (.inl ((s5.1 + (1 : Int32)), M16))) n ((0 : Int32), e1)).bind fun (e5 : AM) => some e5
set_option maxRecDepth 100000 in
set_option maxHeartbeats 4000000 in
theorem C_X12_startsKnowing {n : Nat} {M : AM} {a0 : Nat} {o : AM} (h : F_X12_startsKnowing n M a0 = some o) : Cn yX12_startsKnowing cX12_startsKnowing 2 none 1 [.ref a0] M none o := by
  unfold F_X12_startsKnowing at h
  refine Cn.of rfl (Nat.le_of_ble_eq_true rfl) ?_
  show G yX12_startsKnowing cX12_startsKnowing 2 none 1 0 [(0, .ref a0)] [] M none o
  refine G.iconst (0 : Int32) dX12_startsKnowing_0 ki_0 ?_
  refine G.istore_n (lv' := [(1, .int (0 : Int32)), (0, .ref a0)]) dX12_startsKnowing_1 rfl (Nat.le_of_ble_eq_true rfl) rfl ?_
  refine G.sub (lv' := [(0, .ref a0), (1, .int (0 : Int32))]) [1, 0] rfl ?_
  refine loopE (fun (s1 : Int32 × AM) => G yX12_startsKnowing cX12_startsKnowing 2 none 1 2 [(0, .ref a0), (1, .int s1.1)] [] s1.2 none o) (fun (e1 : AM) => G yX12_startsKnowing cX12_startsKnowing 2 none 1 22 [(0, .ref a0)] [] e1 none o) h ?_ ?_
  · intro e1 h
    show G yX12_startsKnowing cX12_startsKnowing 2 none 1 22 [(0, .ref a0)] [] e1 none o
    refine G.iconst (0 : Int32) dX12_startsKnowing_22 ki_0 ?_
    refine G.istore_n (lv' := [(1, .int (0 : Int32)), (0, .ref a0)]) dX12_startsKnowing_23 rfl (Nat.le_of_ble_eq_true rfl) rfl ?_
    refine G.sub (lv' := [(0, .ref a0), (1, .int (0 : Int32))]) [1, 0] rfl ?_
    refine loopE (fun (s5 : Int32 × AM) => G yX12_startsKnowing cX12_startsKnowing 2 none 1 24 [(0, .ref a0), (1, .int s5.1)] [] s5.2 none o) (fun (e5 : AM) => G yX12_startsKnowing cX12_startsKnowing 2 none 1 77 [] [] e5 none o) h ?_ ?_
    · intro e5 h
      show G yX12_startsKnowing cX12_startsKnowing 2 none 1 77 [] [] e5 none o
      exact G.vretW dX12_startsKnowing_77 rfl h
    · intro s5 x5 h K5
      show G yX12_startsKnowing cX12_startsKnowing 2 none 1 24 [(0, .ref a0), (1, .int s5.1)] [] s5.2 none o
      refine G.iload_n dX12_startsKnowing_24 rfl rfl ?_
      refine G.aload_n dX12_startsKnowing_25 rfl rfl ?_
      refine G.iconst (5 : Int32) dX12_startsKnowing_26 ki_5 ?_
      refine G.callVi (ci := 12) [.int (5 : Int32)] [.int s5.1] dX12_startsKnowing_27 lkX12_383 okX12_has rfl (fun v hv => C_X12_has hv) (Nat.le_of_ble_eq_true rfl) rfl rfl (Nat.le_of_ble_eq_true rfl) h (fun v6 h => ?_)
      refine G.icmp_ge 77 dX12_startsKnowing_30 (by decide) h (fun c7 h => ?_) (fun c7 h => ?_)
      · refine G.sub (lv' := []) [] rfl ?_
        have h := leafR' h K5
        exact h
      · refine G.aload_n dX12_startsKnowing_33 rfl rfl ?_
        refine G.getR dX12_startsKnowing_34 fkX12_164 fr12_68 h (fun v8 h => ?_)
        refine G.aload_n dX12_startsKnowing_37 rfl rfl ?_
        refine G.getR dX12_startsKnowing_38 fkX12_82 fr12_35 h (fun v9 h => ?_)
        refine G.bipush (12 : Int32) dX12_startsKnowing_41 kb_12 ?_
        refine G.aload_n dX12_startsKnowing_43 rfl rfl ?_
        refine G.getI dX12_startsKnowing_44 fkX12_290 fr12_18 h (fun v10 h => ?_)
        refine G.imul dX12_startsKnowing_47 ?_
        refine G.iload_n dX12_startsKnowing_48 rfl rfl ?_
        refine G.iadd dX12_startsKnowing_49 ?_
        refine G.iald dX12_startsKnowing_50 h (fun v11 h => ?_)
        refine G.dup2 dX12_startsKnowing_51 rfl rfl ?_
        refine G.iald dX12_startsKnowing_52 h (fun v12 h => ?_)
        refine G.iconst (1 : Int32) dX12_startsKnowing_53 ki_1 ?_
        refine G.aload_n dX12_startsKnowing_54 rfl rfl ?_
        refine G.getR dX12_startsKnowing_55 fkX12_85 fr12_36 h (fun v13 h => ?_)
        refine G.bipush (12 : Int32) dX12_startsKnowing_58 kb_12 ?_
        refine G.aload_n dX12_startsKnowing_60 rfl rfl ?_
        refine G.getI dX12_startsKnowing_61 fkX12_290 fr12_18 h (fun v14 h => ?_)
        refine G.imul dX12_startsKnowing_64 ?_
        refine G.iload_n dX12_startsKnowing_65 rfl rfl ?_
        refine G.iadd dX12_startsKnowing_66 ?_
        refine G.iald dX12_startsKnowing_67 h (fun v15 h => ?_)
        refine G.ishl dX12_startsKnowing_68 ?_
        refine G.ior dX12_startsKnowing_69 ?_
        refine G.iast dX12_startsKnowing_70 h (fun M16 h => ?_)
        refine G.iinc s5.1 (w := (s5.1 + (1 : Int32))) (lv' := [(1, .int (s5.1 + (1 : Int32))), (0, .ref a0)]) dX12_startsKnowing_71 rfl rfl (Nat.le_of_ble_eq_true rfl) rfl ?_
        refine G.goto 24 dX12_startsKnowing_74 (by decide) ?_
        refine G.sub (lv' := [(0, .ref a0), (1, .int (s5.1 + (1 : Int32)))]) [1, 0] rfl ?_
        have h := leafL' h K5
        exact h
  · intro s1 x1 h K1
    show G yX12_startsKnowing cX12_startsKnowing 2 none 1 2 [(0, .ref a0), (1, .int s1.1)] [] s1.2 none o
    refine G.iload_n dX12_startsKnowing_2 rfl rfl ?_
    refine G.sipush (250 : Int32) dX12_startsKnowing_3 ks_250 ?_
    refine G.icmp_ge 22 dX12_startsKnowing_6 (by decide) h (fun c2 h => ?_) (fun c2 h => ?_)
    · refine G.sub (lv' := [(0, .ref a0)]) [0] rfl ?_
      have h := leafR' h K1
      exact h
    · refine G.aload_n dX12_startsKnowing_9 rfl rfl ?_
      refine G.getR dX12_startsKnowing_10 fkX12_164 fr12_68 h (fun v3 h => ?_)
      refine G.iload_n dX12_startsKnowing_13 rfl rfl ?_
      refine G.iconst (0 : Int32) dX12_startsKnowing_14 ki_0 ?_
      refine G.iast dX12_startsKnowing_15 h (fun M4 h => ?_)
      refine G.iinc s1.1 (w := (s1.1 + (1 : Int32))) (lv' := [(1, .int (s1.1 + (1 : Int32))), (0, .ref a0)]) dX12_startsKnowing_16 rfl rfl (Nat.le_of_ble_eq_true rfl) rfl ?_
      refine G.goto 2 dX12_startsKnowing_19 (by decide) ?_
      refine G.sub (lv' := [(0, .ref a0), (1, .int (s1.1 + (1 : Int32)))]) [1, 0] rfl ?_
      have h := leafL' h K1
      exact h
-- OnlyUpwardModel.mixed(II)I
set_option maxRecDepth 100000 in
set_option maxHeartbeats 4000000 in
def F_X12_mixed (n : Nat) (M : AM) (a0 : Int32) (a1 : Int32) : Option Int32 :=
  lets (((a0 ^^^ a1) * (1103515245 : Int32)) + (12345 : Int32)) fun (w1 : Int32) => some (w1 ^^^ (ush w1 (15 : Int32)))
set_option maxRecDepth 100000 in
set_option maxHeartbeats 4000000 in
theorem C_X12_mixed {n : Nat} {M : AM} {a0 : Int32} {a1 : Int32} {o : Int32} (h : F_X12_mixed n M a0 a1 = some o) : Cn yX12_mixed cX12_mixed 3 (some .int) 0 [.int a0, .int a1] M (some (.int o)) M := by
  unfold F_X12_mixed at h
  refine Cn.of rfl (Nat.le_of_ble_eq_true rfl) ?_
  show G yX12_mixed cX12_mixed 3 (some .int) 0 0 [(0, .int a0), (1, .int a1)] [] M (some (.int o)) M
  refine G.iload_n dX12_mixed_0 rfl rfl ?_
  refine G.iload_n dX12_mixed_1 rfl rfl ?_
  refine G.ixor dX12_mixed_2 ?_
  refine G.ldc_w (1103515245 : Int32) dX12_mixed_3 kcX12_450 ?_
  refine G.imul dX12_mixed_6 ?_
  refine G.sipush (12345 : Int32) dX12_mixed_7 ks_12345 ?_
  refine G.iadd dX12_mixed_10 ?_
  refine lets_elim h (fun w1 ew1 h => ?_)
  rw [← ew1]
  refine G.istore_n (lv' := [(2, .int w1), (0, .int a0), (1, .int a1)]) dX12_mixed_11 rfl (Nat.le_of_ble_eq_true rfl) rfl ?_
  refine G.iload_n dX12_mixed_12 rfl rfl ?_
  refine G.iload_n dX12_mixed_13 rfl rfl ?_
  refine G.bipush (15 : Int32) dX12_mixed_14 kb_15 ?_
  refine G.iushr dX12_mixed_16 ?_
  refine G.ixor dX12_mixed_17 ?_
  exact G.iret dX12_mixed_18 rfl (rfl) h
-- OnlyUpwardModel.lot(III)I
set_option maxRecDepth 100000 in
set_option maxHeartbeats 4000000 in
def F_X12_lot (n : Nat) (M : AM) (a0 : Int32) (a1 : Int32) (a2 : Int32) : Option Int32 :=
  (F_X12_mixed n M a0 (17 : Int32)).bind fun v1 => (F_X12_mixed n M v1 a1).bind fun v2 => gd (¬ a2 = 0) (some ((ush v2 (1 : Int32)) - (ush v2 (1 : Int32)) / a2 * a2))
set_option maxRecDepth 100000 in
set_option maxHeartbeats 4000000 in
theorem C_X12_lot {n : Nat} {M : AM} {a0 : Int32} {a1 : Int32} {a2 : Int32} {o : Int32} (h : F_X12_lot n M a0 a1 a2 = some o) : Cn yX12_lot cX12_lot 3 (some .int) 1 [.int a0, .int a1, .int a2] M (some (.int o)) M := by
  unfold F_X12_lot at h
  refine Cn.of rfl (Nat.le_of_ble_eq_true rfl) ?_
  show G yX12_lot cX12_lot 3 (some .int) 1 0 [(0, .int a0), (1, .int a1), (2, .int a2)] [] M (some (.int o)) M
  refine G.iload_n dX12_lot_0 rfl rfl ?_
  refine G.bipush (17 : Int32) dX12_lot_1 kb_17 ?_
  refine G.callSi [.int a0, .int (17 : Int32)] [] dX12_lot_3 lkX12_451 okX12_mixed (fun v hv => C_X12_mixed hv) (Nat.le_of_ble_eq_true rfl) rfl rfl (Nat.le_of_ble_eq_true rfl) h (fun v1 h => ?_)
  refine G.iload_n dX12_lot_6 rfl rfl ?_
  refine G.callSi [.int v1, .int a1] [] dX12_lot_7 lkX12_451 okX12_mixed (fun v hv => C_X12_mixed hv) (Nat.le_of_ble_eq_true rfl) rfl rfl (Nat.le_of_ble_eq_true rfl) h (fun v2 h => ?_)
  refine G.iconst (1 : Int32) dX12_lot_10 ki_1 ?_
  refine G.iushr dX12_lot_11 ?_
  refine G.iload_n dX12_lot_12 rfl rfl ?_
  refine gd_elim h (fun c3 h => ?_)
  refine G.irem dX12_lot_13 c3 ?_
  exact G.iret dX12_lot_14 rfl (rfl) h
-- OnlyUpwardModel.learn(III)V
set_option maxRecDepth 100000 in
set_option maxHeartbeats 4000000 in
def F_X12_learn (n : Nat) (M : AM) (a0 : Nat) (a1 : Int32) (a2 : Int32) (a3 : Int32) : Option AM :=
  (iter (fun (s1 : Int32 × AM) => (rcv 12 s1.2 a0 (F_X12_has n s1.2 a0 (1 : Int32))).bind fun v2 => if v2 ≤ s1.1 then some (.inr s1.2) else jn (fun (M4 : AM) => some (.inl ((s1.1 + (1 : Int32)), M4))) fun j5 => if ((a1 >>> (s1.1 &&& 31)) &&& (1 : Int32)) = (1 : Int32) then (gR 12 68 s1.2 a0).bind fun v7 => (rdI s1.2 v7 ((((10 : Int32) * a2) + (10 : Int32)) + s1.1)).bind fun v8 => (wrI s1.2 v7 ((((10 : Int32) * a2) + (10 : Int32)) + s1.1) (v8 ||| a3)).bind fun M9 => j5 M9 else j5 s1.2) n ((0 : Int32), M)).bind fun (e1 : AM) => some e1
set_option maxRecDepth 100000 in
set_option maxHeartbeats 4000000 in
theorem C_X12_learn {n : Nat} {M : AM} {a0 : Nat} {a1 : Int32} {a2 : Int32} {a3 : Int32} {o : AM} (h : F_X12_learn n M a0 a1 a2 a3 = some o) : Cn yX12_learn cX12_learn 5 none 1 [.ref a0, .int a1, .int a2, .int a3] M none o := by
  unfold F_X12_learn at h
  refine Cn.of rfl (Nat.le_of_ble_eq_true rfl) ?_
  show G yX12_learn cX12_learn 5 none 1 0 [(0, .ref a0), (1, .int a1), (2, .int a2), (3, .int a3)] [] M none o
  refine G.iconst (0 : Int32) dX12_learn_0 ki_0 ?_
  refine G.istore (lv' := [(4, .int (0 : Int32)), (0, .ref a0), (1, .int a1), (2, .int a2), (3, .int a3)]) dX12_learn_1 (Nat.le_of_ble_eq_true rfl) rfl ?_
  refine G.sub (lv' := [(0, .ref a0), (1, .int a1), (2, .int a2), (3, .int a3), (4, .int (0 : Int32))]) [1, 2, 3, 4, 0] rfl ?_
  refine loopE (fun (s1 : Int32 × AM) => G yX12_learn cX12_learn 5 none 1 3 [(0, .ref a0), (1, .int a1), (2, .int a2), (3, .int a3), (4, .int s1.1)] [] s1.2 none o) (fun (e1 : AM) => G yX12_learn cX12_learn 5 none 1 48 [] [] e1 none o) h ?_ ?_
  · intro e1 h
    show G yX12_learn cX12_learn 5 none 1 48 [] [] e1 none o
    exact G.vretW dX12_learn_48 rfl h
  · intro s1 x1 h K1
    show G yX12_learn cX12_learn 5 none 1 3 [(0, .ref a0), (1, .int a1), (2, .int a2), (3, .int a3), (4, .int s1.1)] [] s1.2 none o
    refine G.iload dX12_learn_3 rfl ?_
    refine G.aload_n dX12_learn_5 rfl rfl ?_
    refine G.iconst (1 : Int32) dX12_learn_6 ki_1 ?_
    refine G.callVi (ci := 12) [.int (1 : Int32)] [.int s1.1] dX12_learn_7 lkX12_383 okX12_has rfl (fun v hv => C_X12_has hv) (Nat.le_of_ble_eq_true rfl) rfl rfl (Nat.le_of_ble_eq_true rfl) h (fun v2 h => ?_)
    refine G.icmp_ge 48 dX12_learn_10 (by decide) h (fun c3 h => ?_) (fun c3 h => ?_)
    · refine G.sub (lv' := []) [] rfl ?_
      have h := leafR' h K1
      exact h
    · refine G.iload_n dX12_learn_13 rfl rfl ?_
      refine G.iload dX12_learn_14 rfl ?_
      refine G.ishr dX12_learn_16 ?_
      refine G.iconst (1 : Int32) dX12_learn_17 ki_1 ?_
      refine G.iand dX12_learn_18 ?_
      refine G.iconst (1 : Int32) dX12_learn_19 ki_1 ?_
      refine jn_elim (fun j5 => ∀ (M4 : AM), j5 M4 = some x1 → G yX12_learn cX12_learn 5 none 1 42 [(0, .ref a0), (1, .int a1), (2, .int a2), (3, .int a3), (4, .int s1.1)] [] M4 none o) h ?_ ?_
      · intro M4 h
        refine G.iinc s1.1 (w := (s1.1 + (1 : Int32))) (lv' := [(4, .int (s1.1 + (1 : Int32))), (0, .ref a0), (1, .int a1), (2, .int a2), (3, .int a3)]) dX12_learn_42 rfl rfl (Nat.le_of_ble_eq_true rfl) rfl ?_
        refine G.goto 3 dX12_learn_45 (by decide) ?_
        refine G.sub (lv' := [(0, .ref a0), (1, .int a1), (2, .int a2), (3, .int a3), (4, .int (s1.1 + (1 : Int32)))]) [1, 2, 3, 4, 0] rfl ?_
        have h := leafL' h K1
        exact h
      · intro j5 Jj5 h
        refine G.icmp_ne 42 dX12_learn_20 (by decide) h (fun c6 h => ?_) (fun c6 h => ?_)
        · refine G.aload_n dX12_learn_23 rfl rfl ?_
          refine G.getR dX12_learn_24 fkX12_164 fr12_68 h (fun v7 h => ?_)
          refine G.bipush (10 : Int32) dX12_learn_27 kb_10 ?_
          refine G.iload_n dX12_learn_29 rfl rfl ?_
          refine G.imul dX12_learn_30 ?_
          refine G.bipush (10 : Int32) dX12_learn_31 kb_10 ?_
          refine G.iadd dX12_learn_33 ?_
          refine G.iload dX12_learn_34 rfl ?_
          refine G.iadd dX12_learn_36 ?_
          refine G.dup2 dX12_learn_37 rfl rfl ?_
          refine G.iald dX12_learn_38 h (fun v8 h => ?_)
          refine G.iload_n dX12_learn_39 rfl rfl ?_
          refine G.ior dX12_learn_40 ?_
          refine G.iast dX12_learn_41 h (fun M9 h => ?_)
          refine G.sub (lv' := [(0, .ref a0), (1, .int a1), (2, .int a2), (3, .int a3), (4, .int s1.1)]) [0, 1, 2, 3, 4] rfl ?_
          exact Jj5 _ h
        · refine G.sub (lv' := [(0, .ref a0), (1, .int a1), (2, .int a2), (3, .int a3), (4, .int s1.1)]) [0, 1, 2, 3, 4] rfl ?_
          exact Jj5 _ h
-- OnlyUpwardModel.knowsIt(III)Z
set_option maxRecDepth 100000 in
set_option maxHeartbeats 4000000 in
def F_X12_knowsIt (n : Nat) (M : AM) (a0 : Nat) (a1 : Int32) (a2 : Int32) (a3 : Int32) : Option Int32 :=
  (gR 12 68 M a0).bind fun v1 => (rdI M v1 (((10 : Int32) * a2) + a1)).bind fun v2 => if ((v2 >>> (a3 &&& 31)) &&& (1 : Int32)) = (1 : Int32) then some (1 : Int32) else some (0 : Int32)
set_option maxRecDepth 100000 in
set_option maxHeartbeats 4000000 in
theorem C_X12_knowsIt {n : Nat} {M : AM} {a0 : Nat} {a1 : Int32} {a2 : Int32} {a3 : Int32} {o : Int32} (h : F_X12_knowsIt n M a0 a1 a2 a3 = some o) : Cn yX12_knowsIt cX12_knowsIt 4 (some .boolean) 0 [.ref a0, .int a1, .int a2, .int a3] M (some (.int o)) M := by
  unfold F_X12_knowsIt at h
  refine Cn.of rfl (Nat.le_of_ble_eq_true rfl) ?_
  show G yX12_knowsIt cX12_knowsIt 4 (some .boolean) 0 0 [(0, .ref a0), (1, .int a1), (2, .int a2), (3, .int a3)] [] M (some (.int o)) M
  refine G.aload_n dX12_knowsIt_0 rfl rfl ?_
  refine G.getR dX12_knowsIt_1 fkX12_164 fr12_68 h (fun v1 h => ?_)
  refine G.bipush (10 : Int32) dX12_knowsIt_4 kb_10 ?_
  refine G.iload_n dX12_knowsIt_6 rfl rfl ?_
  refine G.imul dX12_knowsIt_7 ?_
  refine G.iload_n dX12_knowsIt_8 rfl rfl ?_
  refine G.iadd dX12_knowsIt_9 ?_
  refine G.iald dX12_knowsIt_10 h (fun v2 h => ?_)
  refine G.iload_n dX12_knowsIt_11 rfl rfl ?_
  refine G.ishr dX12_knowsIt_12 ?_
  refine G.iconst (1 : Int32) dX12_knowsIt_13 ki_1 ?_
  refine G.iand dX12_knowsIt_14 ?_
  refine G.iconst (1 : Int32) dX12_knowsIt_15 ki_1 ?_
  refine G.icmp_ne 23 dX12_knowsIt_16 (by decide) h (fun c3 h => ?_) (fun c3 h => ?_)
  · refine G.iconst (1 : Int32) dX12_knowsIt_19 ki_1 ?_
    refine G.goto 24 dX12_knowsIt_20 (by decide) ?_
    exact G.iret dX12_knowsIt_24 rfl (by decide) h
  · refine G.iconst (0 : Int32) dX12_knowsIt_23 ki_0 ?_
    exact G.iret dX12_knowsIt_24 rfl (by decide) h
-- OnlyUpwardModel.whyNot(I)I
set_option maxRecDepth 100000 in
set_option maxHeartbeats 4000000 in
def F_X12_whyNot (n : Nat) (M : AM) (a0 : Nat) (a1 : Int32) : Option (Int32 × AM) :=
  (gR 12 64 M a0).bind fun v1 => (rdI M v1 a1).bind fun v2 => (gR 12 65 M a0).bind fun v3 => (rdI M v3 a1).bind fun v4 => (rcv 12 M a0 (F_X12_isDead n M a0 v4)).bind fun v5 => if v5 = 0 then (iter (fun (s7 : Int32) => if a1 ≤ s7 then some (.inr (.inl ())) else (gR 12 64 M a0).bind fun v9 => (rdI M v9 s7).bind fun v10 => jn (some (.inl (s7 + (1 : Int32)))) fun j11 => if v10 = v2 then (gR 12 65 M a0).bind fun v13 => (rdI M v13 s7).bind fun v14 => if v14 = v4 then some (.inr (.inr ((1 : Int32), M))) else j11 else j11) n (0 : Int32)).bind fun (z7 : (Unit) ⊕ (Int32 × AM)) => Sum.elim (fun (e7 : Unit) => (rcv 12 M a0 (F_X12_placeOf n M a0 v4 v2)).bind fun v16 => (gR 12 63 M a0).bind fun v17 => (rdI M v17 a1).bind fun v18 => jn (fun (u19 : Int32) => if v16 < 0 then some ((2 : Int32), M) else jn ((gR 12 63 M a0).bind fun v21 => (rdI M v21 a1).bind fun v22 => jn (if u19 = 0 then some ((0 : Int32), M) else (gR 12 66 M a0).bind fun v24 => (rdI M v24 a1).bind fun v25 => (gR 12 63 M a0).bind fun v26 => (rdI M v26 a1).bind fun v27 => jn (fun (u28 : Int32) => (rcv 12 M a0 (F_X12_mayBy n M a0 v4 v25 v2 u28 (0 : Int32))).bind fun v29 => if v29.1 = 0 then some ((4 : Int32), v29.2) else some ((0 : Int32), v29.2)) fun j31 => if v27 = (3 : Int32) then j31 (1 : Int32) else j31 (0 : Int32)) fun j33 => if v22 = (3 : Int32) then j33 else (gR 12 67 M a0).bind fun v35 => (rdI M v35 a1).bind fun v36 => (rcv 12 M a0 (F_X12_knowsIt n M a0 v4 v2 v36)).bind fun v37 => if v37 = 0 then some ((3 : Int32), M) else j33) fun j39 => if u19 = 0 then j39 else (gR 12 66 M a0).bind fun v41 => (rdI M v41 a1).bind fun v42 => (rcv 12 M a0 (F_X12_placeOf n M a0 v42 v2)).bind fun v43 => if v43 = v16 then j39 else some ((2 : Int32), M)) fun j45 => jn (j45 (1 : Int32)) fun j46 => if v18 = 0 then j46 else (gR 12 63 M a0).bind fun v48 => (rdI M v48 a1).bind fun v49 => if v49 = (3 : Int32) then j46 else j45 (0 : Int32)) (fun (v : (Int32 × AM)) => some v) z7 else some ((5 : Int32), M)
set_option maxRecDepth 100000 in
set_option maxHeartbeats 4000000 in
theorem C_X12_whyNot {n : Nat} {M : AM} {a0 : Nat} {a1 : Int32} {o : (Int32 × AM)} (h : F_X12_whyNot n M a0 a1 = some o) : Cn yX12_whyNot cX12_whyNot 6 (some .int) 4 [.ref a0, .int a1] M (some (.int o.1)) o.2 := by
  unfold F_X12_whyNot at h
  refine Cn.of rfl (Nat.le_of_ble_eq_true rfl) ?_
  show G yX12_whyNot cX12_whyNot 6 (some .int) 4 0 [(0, .ref a0), (1, .int a1)] [] M (some (.int o.1)) o.2
  refine G.aload_n dX12_whyNot_0 rfl rfl ?_
  refine G.getR dX12_whyNot_1 fkX12_152 fr12_64 h (fun v1 h => ?_)
  refine G.iload_n dX12_whyNot_4 rfl rfl ?_
  refine G.iald dX12_whyNot_5 h (fun v2 h => ?_)
  refine G.istore_n (lv' := [(2, .int v2), (0, .ref a0), (1, .int a1)]) dX12_whyNot_6 rfl (Nat.le_of_ble_eq_true rfl) rfl ?_
  refine G.aload_n dX12_whyNot_7 rfl rfl ?_
  refine G.getR dX12_whyNot_8 fkX12_155 fr12_65 h (fun v3 h => ?_)
  refine G.iload_n dX12_whyNot_11 rfl rfl ?_
  refine G.iald dX12_whyNot_12 h (fun v4 h => ?_)
  refine G.istore_n (lv' := [(3, .int v4), (2, .int v2), (0, .ref a0), (1, .int a1)]) dX12_whyNot_13 rfl (Nat.le_of_ble_eq_true rfl) rfl ?_
  refine G.aload_n dX12_whyNot_14 rfl rfl ?_
  refine G.iload_n dX12_whyNot_15 rfl rfl ?_
  refine G.callVi (ci := 12) [.int v4] [] dX12_whyNot_16 lkX12_393 okX12_isDead rfl (fun v hv => C_X12_isDead hv) (Nat.le_of_ble_eq_true rfl) rfl rfl (Nat.le_of_ble_eq_true rfl) h (fun v5 h => ?_)
  refine G.if_eq 24 dX12_whyNot_19 (by decide) h (fun c6 h => ?_) (fun c6 h => ?_)
  · refine G.iconst (0 : Int32) dX12_whyNot_24 ki_0 ?_
    refine G.istore (lv' := [(4, .int (0 : Int32)), (3, .int v4), (2, .int v2), (0, .ref a0), (1, .int a1)]) dX12_whyNot_25 (Nat.le_of_ble_eq_true rfl) rfl ?_
    refine G.sub (lv' := [(0, .ref a0), (1, .int a1), (2, .int v2), (3, .int v4), (4, .int (0 : Int32))]) [3, 4, 2, 1, 0] rfl ?_
    refine loopE (fun (s7 : Int32) => G yX12_whyNot cX12_whyNot 6 (some .int) 4 27 [(0, .ref a0), (1, .int a1), (2, .int v2), (3, .int v4), (4, .int s7)] [] M (some (.int o.1)) o.2) (fun (z7 : (Unit) ⊕ (Int32 × AM)) => Sum.elim (fun (e7 : Unit) => G yX12_whyNot cX12_whyNot 6 (some .int) 4 63 [(0, .ref a0), (1, .int a1), (2, .int v2), (3, .int v4)] [] M (some (.int o.1)) o.2) (fun (v : (Int32 × AM)) => some v = some o) z7) h ?_ ?_
    · intro z7 h
      rcases z7 with e7 | v
      · have h := sum_inl h
        show G yX12_whyNot cX12_whyNot 6 (some .int) 4 63 [(0, .ref a0), (1, .int a1), (2, .int v2), (3, .int v4)] [] M (some (.int o.1)) o.2
        refine G.aload_n dX12_whyNot_63 rfl rfl ?_
        refine G.iload_n dX12_whyNot_64 rfl rfl ?_
        refine G.iload_n dX12_whyNot_65 rfl rfl ?_
        refine G.callVi (ci := 12) [.int v4, .int v2] [] dX12_whyNot_66 lkX12_396 okX12_placeOf rfl (fun v hv => C_X12_placeOf hv) (Nat.le_of_ble_eq_true rfl) rfl rfl (Nat.le_of_ble_eq_true rfl) h (fun v16 h => ?_)
        refine G.istore (lv' := [(4, .int v16), (0, .ref a0), (1, .int a1), (2, .int v2), (3, .int v4)]) dX12_whyNot_69 (Nat.le_of_ble_eq_true rfl) rfl ?_
        refine G.aload_n dX12_whyNot_71 rfl rfl ?_
        refine G.getR dX12_whyNot_72 fkX12_149 fr12_63 h (fun v17 h => ?_)
        refine G.iload_n dX12_whyNot_75 rfl rfl ?_
        refine G.iald dX12_whyNot_76 h (fun v18 h => ?_)
        refine jn_elim (fun j45 => ∀ (u19 : Int32), j45 u19 = some o → G yX12_whyNot cX12_whyNot 6 (some .int) 4 95 [(0, .ref a0), (1, .int a1), (2, .int v2), (3, .int v4), (4, .int v16)] [.int u19] M (some (.int o.1)) o.2) h ?_ ?_
        · intro u19 h
          refine G.istore (lv' := [(5, .int u19), (0, .ref a0), (1, .int a1), (2, .int v2), (3, .int v4), (4, .int v16)]) dX12_whyNot_95 (Nat.le_of_ble_eq_true rfl) rfl ?_
          refine G.iload dX12_whyNot_97 rfl ?_
          refine G.if_lt 123 dX12_whyNot_99 (by decide) h (fun c20 h => ?_) (fun c20 h => ?_)
          · refine G.iconst (2 : Int32) dX12_whyNot_123 ki_2 ?_
            exact G.iretW dX12_whyNot_124 rfl (rfl) h
          · refine G.iload dX12_whyNot_102 rfl ?_
            refine jn_elim (fun j39 => j39 = some o → G yX12_whyNot cX12_whyNot 6 (some .int) 4 125 [(0, .ref a0), (1, .int a1), (2, .int v2), (3, .int v4), (5, .int u19)] [] M (some (.int o.1)) o.2) h ?_ ?_
            · intro h
              refine G.aload_n dX12_whyNot_125 rfl rfl ?_
              refine G.getR dX12_whyNot_126 fkX12_149 fr12_63 h (fun v21 h => ?_)
              refine G.iload_n dX12_whyNot_129 rfl rfl ?_
              refine G.iald dX12_whyNot_130 h (fun v22 h => ?_)
              refine G.iconst (3 : Int32) dX12_whyNot_131 ki_3 ?_
              refine jn_elim (fun j33 => j33 = some o → G yX12_whyNot cX12_whyNot 6 (some .int) 4 152 [(0, .ref a0), (1, .int a1), (2, .int v2), (3, .int v4), (5, .int u19)] [] M (some (.int o.1)) o.2) h ?_ ?_
              · intro h
                refine G.iload dX12_whyNot_152 rfl ?_
                refine G.if_eq 192 dX12_whyNot_154 (by decide) h (fun c23 h => ?_) (fun c23 h => ?_)
                · refine G.iconst (0 : Int32) dX12_whyNot_192 ki_0 ?_
                  exact G.iretW dX12_whyNot_193 rfl (rfl) h
                · refine G.aload_n dX12_whyNot_157 rfl rfl ?_
                  refine G.iload_n dX12_whyNot_158 rfl rfl ?_
                  refine G.aload_n dX12_whyNot_159 rfl rfl ?_
                  refine G.getR dX12_whyNot_160 fkX12_158 fr12_66 h (fun v24 h => ?_)
                  refine G.iload_n dX12_whyNot_163 rfl rfl ?_
                  refine G.iald dX12_whyNot_164 h (fun v25 h => ?_)
                  refine G.iload_n dX12_whyNot_165 rfl rfl ?_
                  refine G.aload_n dX12_whyNot_166 rfl rfl ?_
                  refine G.getR dX12_whyNot_167 fkX12_149 fr12_63 h (fun v26 h => ?_)
                  refine G.iload_n dX12_whyNot_170 rfl rfl ?_
                  refine G.iald dX12_whyNot_171 h (fun v27 h => ?_)
                  refine G.iconst (3 : Int32) dX12_whyNot_172 ki_3 ?_
                  refine jn_elim (fun j31 => ∀ (u28 : Int32), j31 u28 = some o → G yX12_whyNot cX12_whyNot 6 (some .int) 4 181 [] [.int u28, .int v2, .int v25, .int v4, .ref a0] M (some (.int o.1)) o.2) h ?_ ?_
                  · intro u28 h
                    refine G.iconst (0 : Int32) dX12_whyNot_181 ki_0 ?_
                    refine G.callVi (ci := 12) [.int v4, .int v25, .int v2, .int u28, .int (0 : Int32)] [] dX12_whyNot_182 lkX12_427 okX12_mayBy rfl (fun v hv => C_X12_mayBy hv) (Nat.le_of_ble_eq_true rfl) rfl rfl (Nat.le_of_ble_eq_true rfl) h (fun v29 h => ?_)
                    refine G.if_ne 192 dX12_whyNot_185 (by decide) h (fun c30 h => ?_) (fun c30 h => ?_)
                    · refine G.iconst (4 : Int32) dX12_whyNot_188 ki_4 ?_
                      refine G.goto 193 dX12_whyNot_189 (by decide) ?_
                      exact G.iretW dX12_whyNot_193 rfl (rfl) h
                    · refine G.iconst (0 : Int32) dX12_whyNot_192 ki_0 ?_
                      exact G.iretW dX12_whyNot_193 rfl (rfl) h
                  · intro j31 Jj31 h
                    refine G.icmp_ne 180 dX12_whyNot_173 (by decide) h (fun c32 h => ?_) (fun c32 h => ?_)
                    · refine G.iconst (1 : Int32) dX12_whyNot_176 ki_1 ?_
                      refine G.goto 181 dX12_whyNot_177 (by decide) ?_
                      refine G.sub (lv' := []) [] rfl ?_
                      exact Jj31 _ h
                    · refine G.iconst (0 : Int32) dX12_whyNot_180 ki_0 ?_
                      refine G.sub (lv' := []) [] rfl ?_
                      exact Jj31 _ h
              · intro j33 Jj33 h
                refine G.icmp_eq 152 dX12_whyNot_132 (by decide) h (fun c34 h => ?_) (fun c34 h => ?_)
                · refine G.sub (lv' := [(0, .ref a0), (1, .int a1), (2, .int v2), (3, .int v4), (5, .int u19)]) [0, 1, 2, 3, 4] rfl ?_
                  exact Jj33  h
                · refine G.aload_n dX12_whyNot_135 rfl rfl ?_
                  refine G.iload_n dX12_whyNot_136 rfl rfl ?_
                  refine G.iload_n dX12_whyNot_137 rfl rfl ?_
                  refine G.aload_n dX12_whyNot_138 rfl rfl ?_
                  refine G.getR dX12_whyNot_139 fkX12_161 fr12_67 h (fun v35 h => ?_)
                  refine G.iload_n dX12_whyNot_142 rfl rfl ?_
                  refine G.iald dX12_whyNot_143 h (fun v36 h => ?_)
                  refine G.callVi (ci := 12) [.int v4, .int v2, .int v36] [] dX12_whyNot_144 lkX12_444 okX12_knowsIt rfl (fun v hv => C_X12_knowsIt hv) (Nat.le_of_ble_eq_true rfl) rfl rfl (Nat.le_of_ble_eq_true rfl) h (fun v37 h => ?_)
                  refine G.if_ne 152 dX12_whyNot_147 (by decide) h (fun c38 h => ?_) (fun c38 h => ?_)
                  · refine G.iconst (3 : Int32) dX12_whyNot_150 ki_3 ?_
                    exact G.iretW dX12_whyNot_151 rfl (rfl) h
                  · refine G.sub (lv' := [(0, .ref a0), (1, .int a1), (2, .int v2), (3, .int v4), (5, .int u19)]) [0, 1, 2, 3, 4] rfl ?_
                    exact Jj33  h
            · intro j39 Jj39 h
              refine G.if_eq 125 dX12_whyNot_104 (by decide) h (fun c40 h => ?_) (fun c40 h => ?_)
              · refine G.sub (lv' := [(0, .ref a0), (1, .int a1), (2, .int v2), (3, .int v4), (5, .int u19)]) [1, 2, 3, 4, 0] rfl ?_
                exact Jj39  h
              · refine G.aload_n dX12_whyNot_107 rfl rfl ?_
                refine G.aload_n dX12_whyNot_108 rfl rfl ?_
                refine G.getR dX12_whyNot_109 fkX12_158 fr12_66 h (fun v41 h => ?_)
                refine G.iload_n dX12_whyNot_112 rfl rfl ?_
                refine G.iald dX12_whyNot_113 h (fun v42 h => ?_)
                refine G.iload_n dX12_whyNot_114 rfl rfl ?_
                refine G.callVi (ci := 12) [.int v42, .int v2] [] dX12_whyNot_115 lkX12_396 okX12_placeOf rfl (fun v hv => C_X12_placeOf hv) (Nat.le_of_ble_eq_true rfl) rfl rfl (Nat.le_of_ble_eq_true rfl) h (fun v43 h => ?_)
                refine G.iload dX12_whyNot_118 rfl ?_
                refine G.icmp_eq 125 dX12_whyNot_120 (by decide) h (fun c44 h => ?_) (fun c44 h => ?_)
                · refine G.sub (lv' := [(0, .ref a0), (1, .int a1), (2, .int v2), (3, .int v4), (5, .int u19)]) [1, 2, 3, 4, 0] rfl ?_
                  exact Jj39  h
                · refine G.iconst (2 : Int32) dX12_whyNot_123 ki_2 ?_
                  exact G.iretW dX12_whyNot_124 rfl (rfl) h
        · intro j45 Jj45 h
          refine jn_elim (fun j46 => j46 = some o → G yX12_whyNot cX12_whyNot 6 (some .int) 4 90 [(0, .ref a0), (1, .int a1), (2, .int v2), (3, .int v4), (4, .int v16)] [] M (some (.int o.1)) o.2) h ?_ ?_
          · intro h
            refine G.iconst (1 : Int32) dX12_whyNot_90 ki_1 ?_
            refine G.goto 95 dX12_whyNot_91 (by decide) ?_
            refine G.sub (lv' := [(0, .ref a0), (1, .int a1), (2, .int v2), (3, .int v4), (4, .int v16)]) [0, 1, 2, 3, 4] rfl ?_
            exact Jj45 _ h
          · intro j46 Jj46 h
            refine G.if_eq 90 dX12_whyNot_77 (by decide) h (fun c47 h => ?_) (fun c47 h => ?_)
            · refine G.sub (lv' := [(0, .ref a0), (1, .int a1), (2, .int v2), (3, .int v4), (4, .int v16)]) [1, 2, 3, 4, 0] rfl ?_
              exact Jj46  h
            · refine G.aload_n dX12_whyNot_80 rfl rfl ?_
              refine G.getR dX12_whyNot_81 fkX12_149 fr12_63 h (fun v48 h => ?_)
              refine G.iload_n dX12_whyNot_84 rfl rfl ?_
              refine G.iald dX12_whyNot_85 h (fun v49 h => ?_)
              refine G.iconst (3 : Int32) dX12_whyNot_86 ki_3 ?_
              refine G.icmp_ne 94 dX12_whyNot_87 (by decide) h (fun c50 h => ?_) (fun c50 h => ?_)
              · refine G.sub (lv' := [(0, .ref a0), (1, .int a1), (2, .int v2), (3, .int v4), (4, .int v16)]) [1, 2, 3, 4, 0] rfl ?_
                exact Jj46  h
              · refine G.iconst (0 : Int32) dX12_whyNot_94 ki_0 ?_
                refine G.sub (lv' := [(0, .ref a0), (1, .int a1), (2, .int v2), (3, .int v4), (4, .int v16)]) [1, 2, 3, 4, 0] rfl ?_
                exact Jj45 _ h
      · have h := sum_inr h
        exact h
    · intro s7 x7 h K7
      show G yX12_whyNot cX12_whyNot 6 (some .int) 4 27 [(0, .ref a0), (1, .int a1), (2, .int v2), (3, .int v4), (4, .int s7)] [] M (some (.int o.1)) o.2
      refine G.iload dX12_whyNot_27 rfl ?_
      refine G.iload_n dX12_whyNot_29 rfl rfl ?_
      refine G.icmp_ge 63 dX12_whyNot_30 (by decide) h (fun c8 h => ?_) (fun c8 h => ?_)
      · refine G.sub (lv' := [(0, .ref a0), (1, .int a1), (2, .int v2), (3, .int v4)]) [0, 1, 2, 3] rfl ?_
        have h := leafR' h K7
        exact h
      · refine G.aload_n dX12_whyNot_33 rfl rfl ?_
        refine G.getR dX12_whyNot_34 fkX12_152 fr12_64 h (fun v9 h => ?_)
        refine G.iload dX12_whyNot_37 rfl ?_
        refine G.iald dX12_whyNot_39 h (fun v10 h => ?_)
        refine G.iload_n dX12_whyNot_40 rfl rfl ?_
        refine jn_elim (fun j11 => j11 = some x7 → G yX12_whyNot cX12_whyNot 6 (some .int) 4 57 [(0, .ref a0), (1, .int a1), (2, .int v2), (3, .int v4), (4, .int s7)] [] M (some (.int o.1)) o.2) h ?_ ?_
        · intro h
          refine G.iinc s7 (w := (s7 + (1 : Int32))) (lv' := [(4, .int (s7 + (1 : Int32))), (0, .ref a0), (1, .int a1), (2, .int v2), (3, .int v4)]) dX12_whyNot_57 rfl rfl (Nat.le_of_ble_eq_true rfl) rfl ?_
          refine G.goto 27 dX12_whyNot_60 (by decide) ?_
          refine G.sub (lv' := [(0, .ref a0), (1, .int a1), (2, .int v2), (3, .int v4), (4, .int (s7 + (1 : Int32)))]) [1, 2, 3, 4, 0] rfl ?_
          have h := leafL' h K7
          exact h
        · intro j11 Jj11 h
          refine G.icmp_ne 57 dX12_whyNot_41 (by decide) h (fun c12 h => ?_) (fun c12 h => ?_)
          · refine G.aload_n dX12_whyNot_44 rfl rfl ?_
            refine G.getR dX12_whyNot_45 fkX12_155 fr12_65 h (fun v13 h => ?_)
            refine G.iload dX12_whyNot_48 rfl ?_
            refine G.iald dX12_whyNot_50 h (fun v14 h => ?_)
            refine G.iload_n dX12_whyNot_51 rfl rfl ?_
            refine G.icmp_ne 57 dX12_whyNot_52 (by decide) h (fun c15 h => ?_) (fun c15 h => ?_)
            · refine G.iconst (1 : Int32) dX12_whyNot_55 ki_1 ?_
              have h := leafR' h K7
              exact G.iretW dX12_whyNot_56 rfl (rfl) h
            · refine G.sub (lv' := [(0, .ref a0), (1, .int a1), (2, .int v2), (3, .int v4), (4, .int s7)]) [0, 1, 2, 3, 4] rfl ?_
              exact Jj11  h
          · refine G.sub (lv' := [(0, .ref a0), (1, .int a1), (2, .int v2), (3, .int v4), (4, .int s7)]) [0, 1, 2, 3, 4] rfl ?_
            exact Jj11  h
  · refine G.iconst (5 : Int32) dX12_whyNot_22 ki_5 ?_
    exact G.iretW dX12_whyNot_23 rfl (rfl) h
-- OnlyUpwardModel.does(I)V
set_option maxRecDepth 100000 in
set_option maxHeartbeats 4000000 in
def F_X12_does (n : Nat) (M : AM) (a0 : Nat) (a1 : Int32) : Option AM :=
  (gR 12 64 M a0).bind fun v1 => (rdI M v1 a1).bind fun v2 => (gR 12 65 M a0).bind fun v3 => (rdI M v3 a1).bind fun v4 => (gR 12 67 M a0).bind fun v5 => (rdI M v5 a1).bind fun v6 => (rcv 12 M a0 (F_X12_placeOf n M a0 v4 v2)).bind fun v7 => (gR 12 63 M a0).bind fun v8 => (rdI M v8 a1).bind fun v9 => if v9 = (1 : Int32) then (rcv 12 M a0 (F_X12_crowdAt n M a0 v7 v2)).bind fun v11 => (rcv 12 M a0 (F_X12_learn n M a0 v11 v2 ((1 : Int32) <<< (v6 &&& 31)))).bind fun M13 => some M13 else (gR 12 63 M a0).bind fun v14 => (rdI M v14 a1).bind fun v15 => if v15 = (2 : Int32) then (gR 12 71 M a0).bind fun v17 => (rdI M v17 v7).bind fun v18 => (wrI M v17 v7 (v18 ||| ((1 : Int32) <<< (((6 : Int32) + v6) &&& 31)))).bind fun M19 => some M19 else (gR 12 66 M a0).bind fun v20 => (rdI M v20 a1).bind fun v21 => (gR 12 63 M a0).bind fun v22 => (rdI M v22 a1).bind fun v23 => jn (fun (u24 : Int32) (M25 : AM) => (rcv 12 M25 a0 (F_X12_earshotOf n M25 a0 v7 v2)).bind fun v26 => jn (fun (M27 : AM) => (gR 12 63 M27 a0).bind fun v28 => (rdI M27 v28 a1).bind fun v29 => if v29 = 0 then some M27 else (rcv 12 M27 a0 (F_X12_knowsIt n M27 a0 v4 v2 v6)).bind fun v31 => if v31 = 0 then (iter (fun (s33 : Int32 × AM) => (rcv 12 s33.2 a0 (F_X12_has n s33.2 a0 (1 : Int32))).bind fun v34 => if v34 ≤ s33.1 then some (.inr s33.2) else jn (fun (M36 : AM) => some (.inl ((s33.1 + (1 : Int32)), M36))) fun j37 => if s33.1 = v4 then j37 s33.2 else if ((v26 >>> (s33.1 &&& 31)) &&& (1 : Int32)) = (1 : Int32) then (gR 12 70 s33.2 a0).bind fun v40 => (rdI s33.2 v40 ((((60 : Int32) * s33.1) + ((6 : Int32) * v4)) + v6)).bind fun v41 => if v41 ≤ (v2 + (1 : Int32)) then j37 s33.2 else (gR 12 70 s33.2 a0).bind fun v43 => (wrI s33.2 v43 ((((60 : Int32) * s33.1) + ((6 : Int32) * v4)) + v6) (v2 + (1 : Int32))).bind fun M44 => j37 M44 else j37 s33.2) n ((0 : Int32), M27)).bind fun (e33 : AM) => some e33 else some M27) fun j45 => if u24 = 0 then j45 M25 else (rcv 12 M25 a0 (F_X12_learn n M25 a0 v26 v2 ((1 : Int32) <<< (v6 &&& 31)))).bind fun M48 => j45 M48) fun j49 => jn (fun (M50 : AM) => j49 (1 : Int32) M50) fun j51 => if v23 = 0 then j51 M else (rcv 12 M a0 (F_X12_knowsIt n M a0 v21 v2 v6)).bind fun v53 => jn (fun (M54 : AM) => j49 (0 : Int32) M54) fun j55 => if v53 = 0 then j55 M else (rcv 12 M a0 (F_X12_mayBy n M a0 v21 v4 v2 (0 : Int32) (0 : Int32))).bind fun v57 => if v57.1 = 0 then j55 v57.2 else j51 v57.2
set_option maxRecDepth 100000 in
set_option maxHeartbeats 4000000 in
theorem C_X12_does {n : Nat} {M : AM} {a0 : Nat} {a1 : Int32} {o : AM} (h : F_X12_does n M a0 a1 = some o) : Cn yX12_does cX12_does 10 none 4 [.ref a0, .int a1] M none o := by
  unfold F_X12_does at h
  refine Cn.of rfl (Nat.le_of_ble_eq_true rfl) ?_
  show G yX12_does cX12_does 10 none 4 0 [(0, .ref a0), (1, .int a1)] [] M none o
  refine G.aload_n dX12_does_0 rfl rfl ?_
  refine G.getR dX12_does_1 fkX12_152 fr12_64 h (fun v1 h => ?_)
  refine G.iload_n dX12_does_4 rfl rfl ?_
  refine G.iald dX12_does_5 h (fun v2 h => ?_)
  refine G.istore_n (lv' := [(2, .int v2), (0, .ref a0), (1, .int a1)]) dX12_does_6 rfl (Nat.le_of_ble_eq_true rfl) rfl ?_
  refine G.aload_n dX12_does_7 rfl rfl ?_
  refine G.getR dX12_does_8 fkX12_155 fr12_65 h (fun v3 h => ?_)
  refine G.iload_n dX12_does_11 rfl rfl ?_
  refine G.iald dX12_does_12 h (fun v4 h => ?_)
  refine G.istore_n (lv' := [(3, .int v4), (2, .int v2), (0, .ref a0), (1, .int a1)]) dX12_does_13 rfl (Nat.le_of_ble_eq_true rfl) rfl ?_
  refine G.aload_n dX12_does_14 rfl rfl ?_
  refine G.getR dX12_does_15 fkX12_161 fr12_67 h (fun v5 h => ?_)
  refine G.iload_n dX12_does_18 rfl rfl ?_
  refine G.iald dX12_does_19 h (fun v6 h => ?_)
  refine G.istore (lv' := [(4, .int v6), (3, .int v4), (2, .int v2), (0, .ref a0), (1, .int a1)]) dX12_does_20 (Nat.le_of_ble_eq_true rfl) rfl ?_
  refine G.aload_n dX12_does_22 rfl rfl ?_
  refine G.iload_n dX12_does_23 rfl rfl ?_
  refine G.iload_n dX12_does_24 rfl rfl ?_
  refine G.callVi (ci := 12) [.int v4, .int v2] [] dX12_does_25 lkX12_396 okX12_placeOf rfl (fun v hv => C_X12_placeOf hv) (Nat.le_of_ble_eq_true rfl) rfl rfl (Nat.le_of_ble_eq_true rfl) h (fun v7 h => ?_)
  refine G.istore (lv' := [(5, .int v7), (4, .int v6), (3, .int v4), (2, .int v2), (0, .ref a0), (1, .int a1)]) dX12_does_28 (Nat.le_of_ble_eq_true rfl) rfl ?_
  refine G.aload_n dX12_does_30 rfl rfl ?_
  refine G.getR dX12_does_31 fkX12_149 fr12_63 h (fun v8 h => ?_)
  refine G.iload_n dX12_does_34 rfl rfl ?_
  refine G.iald dX12_does_35 h (fun v9 h => ?_)
  refine G.iconst (1 : Int32) dX12_does_36 ki_1 ?_
  refine G.icmp_ne 59 dX12_does_37 (by decide) h (fun c10 h => ?_) (fun c10 h => ?_)
  · refine G.aload_n dX12_does_40 rfl rfl ?_
    refine G.aload_n dX12_does_41 rfl rfl ?_
    refine G.iload dX12_does_42 rfl ?_
    refine G.iload_n dX12_does_44 rfl rfl ?_
    refine G.callVi (ci := 12) [.int v7, .int v2] [.ref a0] dX12_does_45 lkX12_406 okX12_crowdAt rfl (fun v hv => C_X12_crowdAt hv) (Nat.le_of_ble_eq_true rfl) rfl rfl (Nat.le_of_ble_eq_true rfl) h (fun v11 h => ?_)
    refine G.iload_n dX12_does_48 rfl rfl ?_
    refine G.iconst (1 : Int32) dX12_does_49 ki_1 ?_
    refine G.iload dX12_does_50 rfl ?_
    refine G.ishl dX12_does_52 ?_
    refine G.callVv (ci := 12) [.int v11, .int v2, .int ((1 : Int32) <<< (v6 &&& 31))] [] dX12_does_53 lkX12_447 okX12_learn rfl (fun v hv => C_X12_learn hv) (Nat.le_of_ble_eq_true rfl) rfl rfl (Nat.le_of_ble_eq_true rfl) h (fun M13 h => ?_)
    refine G.goto 265 dX12_does_56 (by decide) ?_
    exact G.vretW dX12_does_265 rfl h
  · refine G.aload_n dX12_does_59 rfl rfl ?_
    refine G.getR dX12_does_60 fkX12_149 fr12_63 h (fun v14 h => ?_)
    refine G.iload_n dX12_does_63 rfl rfl ?_
    refine G.iald dX12_does_64 h (fun v15 h => ?_)
    refine G.iconst (2 : Int32) dX12_does_65 ki_2 ?_
    refine G.icmp_ne 89 dX12_does_66 (by decide) h (fun c16 h => ?_) (fun c16 h => ?_)
    · refine G.aload_n dX12_does_69 rfl rfl ?_
      refine G.getR dX12_does_70 fkX12_173 fr12_71 h (fun v17 h => ?_)
      refine G.iload dX12_does_73 rfl ?_
      refine G.dup2 dX12_does_75 rfl rfl ?_
      refine G.iald dX12_does_76 h (fun v18 h => ?_)
      refine G.iconst (1 : Int32) dX12_does_77 ki_1 ?_
      refine G.bipush (6 : Int32) dX12_does_78 kb_6 ?_
      refine G.iload dX12_does_80 rfl ?_
      refine G.iadd dX12_does_82 ?_
      refine G.ishl dX12_does_83 ?_
      refine G.ior dX12_does_84 ?_
      refine G.iast dX12_does_85 h (fun M19 h => ?_)
      refine G.goto 265 dX12_does_86 (by decide) ?_
      exact G.vretW dX12_does_265 rfl h
    · refine G.aload_n dX12_does_89 rfl rfl ?_
      refine G.getR dX12_does_90 fkX12_158 fr12_66 h (fun v20 h => ?_)
      refine G.iload_n dX12_does_93 rfl rfl ?_
      refine G.iald dX12_does_94 h (fun v21 h => ?_)
      refine G.istore (lv' := [(6, .int v21), (5, .int v7), (4, .int v6), (3, .int v4), (2, .int v2), (0, .ref a0), (1, .int a1)]) dX12_does_95 (Nat.le_of_ble_eq_true rfl) rfl ?_
      refine G.aload_n dX12_does_97 rfl rfl ?_
      refine G.getR dX12_does_98 fkX12_149 fr12_63 h (fun v22 h => ?_)
      refine G.iload_n dX12_does_101 rfl rfl ?_
      refine G.iald dX12_does_102 h (fun v23 h => ?_)
      refine jn_elim (fun j49 => ∀ (u24 : Int32) (M25 : AM), j49 u24 M25 = some o → G yX12_does cX12_does 10 none 4 136 [(0, .ref a0), (1, .int a1), (2, .int v2), (3, .int v4), (4, .int v6), (5, .int v7)] [.int u24] M25 none o) h ?_ ?_
      · intro u24 M25 h
        refine G.istore (lv' := [(7, .int u24), (0, .ref a0), (1, .int a1), (2, .int v2), (3, .int v4), (4, .int v6), (5, .int v7)]) dX12_does_136 (Nat.le_of_ble_eq_true rfl) rfl ?_
        refine G.aload_n dX12_does_138 rfl rfl ?_
        refine G.iload dX12_does_139 rfl ?_
        refine G.iload_n dX12_does_141 rfl rfl ?_
        refine G.callVi (ci := 12) [.int v7, .int v2] [] dX12_does_142 lkX12_424 okX12_earshotOf rfl (fun v hv => C_X12_earshotOf hv) (Nat.le_of_ble_eq_true rfl) rfl rfl (Nat.le_of_ble_eq_true rfl) h (fun v26 h => ?_)
        refine G.istore (lv' := [(8, .int v26), (7, .int u24), (0, .ref a0), (1, .int a1), (2, .int v2), (3, .int v4), (4, .int v6), (5, .int v7)]) dX12_does_145 (Nat.le_of_ble_eq_true rfl) rfl ?_
        refine G.iload dX12_does_147 rfl ?_
        refine jn_elim (fun j45 => ∀ (M27 : AM), j45 M27 = some o → G yX12_does cX12_does 10 none 4 163 [(0, .ref a0), (1, .int a1), (2, .int v2), (3, .int v4), (4, .int v6), (8, .int v26)] [] M27 none o) h ?_ ?_
        · intro M27 h
          refine G.aload_n dX12_does_163 rfl rfl ?_
          refine G.getR dX12_does_164 fkX12_149 fr12_63 h (fun v28 h => ?_)
          refine G.iload_n dX12_does_167 rfl rfl ?_
          refine G.iald dX12_does_168 h (fun v29 h => ?_)
          refine G.if_eq 183 dX12_does_169 (by decide) h (fun c30 h => ?_) (fun c30 h => ?_)
          · exact G.vretW dX12_does_183 rfl h
          · refine G.aload_n dX12_does_172 rfl rfl ?_
            refine G.iload_n dX12_does_173 rfl rfl ?_
            refine G.iload_n dX12_does_174 rfl rfl ?_
            refine G.iload dX12_does_175 rfl ?_
            refine G.callVi (ci := 12) [.int v4, .int v2, .int v6] [] dX12_does_177 lkX12_444 okX12_knowsIt rfl (fun v hv => C_X12_knowsIt hv) (Nat.le_of_ble_eq_true rfl) rfl rfl (Nat.le_of_ble_eq_true rfl) h (fun v31 h => ?_)
            refine G.if_eq 184 dX12_does_180 (by decide) h (fun c32 h => ?_) (fun c32 h => ?_)
            · refine G.iconst (0 : Int32) dX12_does_184 ki_0 ?_
              refine G.istore (lv' := [(9, .int (0 : Int32)), (0, .ref a0), (1, .int a1), (2, .int v2), (3, .int v4), (4, .int v6), (8, .int v26)]) dX12_does_185 (Nat.le_of_ble_eq_true rfl) rfl ?_
              refine G.sub (lv' := [(0, .ref a0), (2, .int v2), (3, .int v4), (4, .int v6), (8, .int v26), (9, .int (0 : Int32))]) [1, 3, 4, 5, 6, 0] rfl ?_
              refine loopE (fun (s33 : Int32 × AM) => G yX12_does cX12_does 10 none 4 187 [(0, .ref a0), (2, .int v2), (3, .int v4), (4, .int v6), (8, .int v26), (9, .int s33.1)] [] s33.2 none o) (fun (e33 : AM) => G yX12_does cX12_does 10 none 4 265 [] [] e33 none o) h ?_ ?_
              · intro e33 h
                show G yX12_does cX12_does 10 none 4 265 [] [] e33 none o
                exact G.vretW dX12_does_265 rfl h
              · intro s33 x33 h K33
                show G yX12_does cX12_does 10 none 4 187 [(0, .ref a0), (2, .int v2), (3, .int v4), (4, .int v6), (8, .int v26), (9, .int s33.1)] [] s33.2 none o
                refine G.iload dX12_does_187 rfl ?_
                refine G.aload_n dX12_does_189 rfl rfl ?_
                refine G.iconst (1 : Int32) dX12_does_190 ki_1 ?_
                refine G.callVi (ci := 12) [.int (1 : Int32)] [.int s33.1] dX12_does_191 lkX12_383 okX12_has rfl (fun v hv => C_X12_has hv) (Nat.le_of_ble_eq_true rfl) rfl rfl (Nat.le_of_ble_eq_true rfl) h (fun v34 h => ?_)
                refine G.icmp_ge 265 dX12_does_194 (by decide) h (fun c35 h => ?_) (fun c35 h => ?_)
                · refine G.sub (lv' := []) [] rfl ?_
                  have h := leafR' h K33
                  exact h
                · refine G.iload dX12_does_197 rfl ?_
                  refine G.iload_n dX12_does_199 rfl rfl ?_
                  refine jn_elim (fun j37 => ∀ (M36 : AM), j37 M36 = some x33 → G yX12_does cX12_does 10 none 4 259 [(0, .ref a0), (2, .int v2), (3, .int v4), (4, .int v6), (8, .int v26), (9, .int s33.1)] [] M36 none o) h ?_ ?_
                  · intro M36 h
                    refine G.iinc s33.1 (w := (s33.1 + (1 : Int32))) (lv' := [(9, .int (s33.1 + (1 : Int32))), (0, .ref a0), (2, .int v2), (3, .int v4), (4, .int v6), (8, .int v26)]) dX12_does_259 rfl rfl (Nat.le_of_ble_eq_true rfl) rfl ?_
                    refine G.goto 187 dX12_does_262 (by decide) ?_
                    refine G.sub (lv' := [(0, .ref a0), (2, .int v2), (3, .int v4), (4, .int v6), (8, .int v26), (9, .int (s33.1 + (1 : Int32)))]) [1, 2, 3, 4, 5, 0] rfl ?_
                    have h := leafL' h K33
                    exact h
                  · intro j37 Jj37 h
                    refine G.icmp_eq 259 dX12_does_200 (by decide) h (fun c38 h => ?_) (fun c38 h => ?_)
                    · refine G.sub (lv' := [(0, .ref a0), (2, .int v2), (3, .int v4), (4, .int v6), (8, .int v26), (9, .int s33.1)]) [0, 1, 2, 3, 4, 5] rfl ?_
                      exact Jj37 _ h
                    · refine G.iload dX12_does_203 rfl ?_
                      refine G.iload dX12_does_205 rfl ?_
                      refine G.ishr dX12_does_207 ?_
                      refine G.iconst (1 : Int32) dX12_does_208 ki_1 ?_
                      refine G.iand dX12_does_209 ?_
                      refine G.iconst (1 : Int32) dX12_does_210 ki_1 ?_
                      refine G.icmp_ne 259 dX12_does_211 (by decide) h (fun c39 h => ?_) (fun c39 h => ?_)
                      · refine G.aload_n dX12_does_214 rfl rfl ?_
                        refine G.getR dX12_does_215 fkX12_170 fr12_70 h (fun v40 h => ?_)
                        refine G.bipush (60 : Int32) dX12_does_218 kb_60 ?_
                        refine G.iload dX12_does_220 rfl ?_
                        refine G.imul dX12_does_222 ?_
                        refine G.bipush (6 : Int32) dX12_does_223 kb_6 ?_
                        refine G.iload_n dX12_does_225 rfl rfl ?_
                        refine G.imul dX12_does_226 ?_
                        refine G.iadd dX12_does_227 ?_
                        refine G.iload dX12_does_228 rfl ?_
                        refine G.iadd dX12_does_230 ?_
                        refine G.iald dX12_does_231 h (fun v41 h => ?_)
                        refine G.iload_n dX12_does_232 rfl rfl ?_
                        refine G.iconst (1 : Int32) dX12_does_233 ki_1 ?_
                        refine G.iadd dX12_does_234 ?_
                        refine G.icmp_le 259 dX12_does_235 (by decide) h (fun c42 h => ?_) (fun c42 h => ?_)
                        · refine G.sub (lv' := [(0, .ref a0), (2, .int v2), (3, .int v4), (4, .int v6), (8, .int v26), (9, .int s33.1)]) [0, 1, 2, 3, 4, 5] rfl ?_
                          exact Jj37 _ h
                        · refine G.aload_n dX12_does_238 rfl rfl ?_
                          refine G.getR dX12_does_239 fkX12_170 fr12_70 h (fun v43 h => ?_)
                          refine G.bipush (60 : Int32) dX12_does_242 kb_60 ?_
                          refine G.iload dX12_does_244 rfl ?_
                          refine G.imul dX12_does_246 ?_
                          refine G.bipush (6 : Int32) dX12_does_247 kb_6 ?_
                          refine G.iload_n dX12_does_249 rfl rfl ?_
                          refine G.imul dX12_does_250 ?_
                          refine G.iadd dX12_does_251 ?_
                          refine G.iload dX12_does_252 rfl ?_
                          refine G.iadd dX12_does_254 ?_
                          refine G.iload_n dX12_does_255 rfl rfl ?_
                          refine G.iconst (1 : Int32) dX12_does_256 ki_1 ?_
                          refine G.iadd dX12_does_257 ?_
                          refine G.iast dX12_does_258 h (fun M44 h => ?_)
                          refine G.sub (lv' := [(0, .ref a0), (2, .int v2), (3, .int v4), (4, .int v6), (8, .int v26), (9, .int s33.1)]) [0, 1, 2, 3, 4, 5] rfl ?_
                          exact Jj37 _ h
                      · refine G.sub (lv' := [(0, .ref a0), (2, .int v2), (3, .int v4), (4, .int v6), (8, .int v26), (9, .int s33.1)]) [0, 1, 2, 3, 4, 5] rfl ?_
                        exact Jj37 _ h
            · exact G.vretW dX12_does_183 rfl h
        · intro j45 Jj45 h
          refine G.if_eq 163 dX12_does_149 (by decide) h (fun c46 h => ?_) (fun c46 h => ?_)
          · refine G.sub (lv' := [(0, .ref a0), (1, .int a1), (2, .int v2), (3, .int v4), (4, .int v6), (8, .int v26)]) [2, 3, 4, 5, 6, 0] rfl ?_
            exact Jj45 _ h
          · refine G.aload_n dX12_does_152 rfl rfl ?_
            refine G.iload dX12_does_153 rfl ?_
            refine G.iload_n dX12_does_155 rfl rfl ?_
            refine G.iconst (1 : Int32) dX12_does_156 ki_1 ?_
            refine G.iload dX12_does_157 rfl ?_
            refine G.ishl dX12_does_159 ?_
            refine G.callVv (ci := 12) [.int v26, .int v2, .int ((1 : Int32) <<< (v6 &&& 31))] [] dX12_does_160 lkX12_447 okX12_learn rfl (fun v hv => C_X12_learn hv) (Nat.le_of_ble_eq_true rfl) rfl rfl (Nat.le_of_ble_eq_true rfl) h (fun M48 h => ?_)
            refine G.sub (lv' := [(0, .ref a0), (1, .int a1), (2, .int v2), (3, .int v4), (4, .int v6), (8, .int v26)]) [2, 3, 4, 5, 6, 0] rfl ?_
            exact Jj45 _ h
      · intro j49 Jj49 h
        refine jn_elim (fun j51 => ∀ (M50 : AM), j51 M50 = some o → G yX12_does cX12_does 10 none 4 131 [(0, .ref a0), (1, .int a1), (2, .int v2), (3, .int v4), (4, .int v6), (5, .int v7)] [] M50 none o) h ?_ ?_
        · intro M50 h
          refine G.iconst (1 : Int32) dX12_does_131 ki_1 ?_
          refine G.goto 136 dX12_does_132 (by decide) ?_
          refine G.sub (lv' := [(0, .ref a0), (1, .int a1), (2, .int v2), (3, .int v4), (4, .int v6), (5, .int v7)]) [0, 1, 2, 3, 4, 5] rfl ?_
          exact Jj49 _ _ h
        · intro j51 Jj51 h
          refine G.if_eq 131 dX12_does_103 (by decide) h (fun c52 h => ?_) (fun c52 h => ?_)
          · refine G.sub (lv' := [(0, .ref a0), (1, .int a1), (2, .int v2), (3, .int v4), (4, .int v6), (5, .int v7)]) [5, 6, 4, 3, 2, 1] rfl ?_
            exact Jj51 _ h
          · refine G.aload_n dX12_does_106 rfl rfl ?_
            refine G.iload dX12_does_107 rfl ?_
            refine G.iload_n dX12_does_109 rfl rfl ?_
            refine G.iload dX12_does_110 rfl ?_
            refine G.callVi (ci := 12) [.int v21, .int v2, .int v6] [] dX12_does_112 lkX12_444 okX12_knowsIt rfl (fun v hv => C_X12_knowsIt hv) (Nat.le_of_ble_eq_true rfl) rfl rfl (Nat.le_of_ble_eq_true rfl) h (fun v53 h => ?_)
            refine jn_elim (fun j55 => ∀ (M54 : AM), j55 M54 = some o → G yX12_does cX12_does 10 none 4 135 [(0, .ref a0), (1, .int a1), (2, .int v2), (3, .int v4), (4, .int v6), (5, .int v7)] [] M54 none o) h ?_ ?_
            · intro M54 h
              refine G.iconst (0 : Int32) dX12_does_135 ki_0 ?_
              refine G.sub (lv' := [(0, .ref a0), (1, .int a1), (2, .int v2), (3, .int v4), (4, .int v6), (5, .int v7)]) [0, 1, 2, 3, 4, 5] rfl ?_
              exact Jj49 _ _ h
            · intro j55 Jj55 h
              refine G.if_eq 135 dX12_does_115 (by decide) h (fun c56 h => ?_) (fun c56 h => ?_)
              · refine G.sub (lv' := [(0, .ref a0), (1, .int a1), (2, .int v2), (3, .int v4), (4, .int v6), (5, .int v7)]) [5, 6, 4, 3, 2, 1] rfl ?_
                exact Jj55 _ h
              · refine G.aload_n dX12_does_118 rfl rfl ?_
                refine G.iload dX12_does_119 rfl ?_
                refine G.iload_n dX12_does_121 rfl rfl ?_
                refine G.iload_n dX12_does_122 rfl rfl ?_
                refine G.iconst (0 : Int32) dX12_does_123 ki_0 ?_
                refine G.iconst (0 : Int32) dX12_does_124 ki_0 ?_
                refine G.callVi (ci := 12) [.int v21, .int v4, .int v2, .int (0 : Int32), .int (0 : Int32)] [] dX12_does_125 lkX12_427 okX12_mayBy rfl (fun v hv => C_X12_mayBy hv) (Nat.le_of_ble_eq_true rfl) rfl rfl (Nat.le_of_ble_eq_true rfl) h (fun v57 h => ?_)
                refine G.if_eq 135 dX12_does_128 (by decide) h (fun c58 h => ?_) (fun c58 h => ?_)
                · refine G.sub (lv' := [(0, .ref a0), (1, .int a1), (2, .int v2), (3, .int v4), (4, .int v6), (5, .int v7)]) [5, 6, 4, 3, 2, 1] rfl ?_
                  exact Jj55 _ h
                · refine G.sub (lv' := [(0, .ref a0), (1, .int a1), (2, .int v2), (3, .int v4), (4, .int v6), (5, .int v7)]) [5, 6, 4, 3, 2, 1] rfl ?_
                  exact Jj51 _ h
