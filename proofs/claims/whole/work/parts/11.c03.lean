-- OnlyUpward$Laws.holds(I)Z
set_option maxRecDepth 100000 in
set_option maxHeartbeats 4000000 in
def F_X4_holds (n : Nat) (M : AM) (a0 : Nat) (a1 : Int32) : Option (Int32 × AM) :=
  (gR 4 2 M a0).bind fun v1 => (rdI M v1 a1).bind fun v2 => (iter (fun (s3 : Int32 × Int32 × Int32 × AM) => (gR 4 3 s3.2.2.2 a0).bind fun v4 => (rdI s3.2.2.2 v4 a1).bind fun v5 => if v5 ≤ s3.2.2.1 then some (.inr (s3.1, s3.2.2.2)) else (gR 4 0 s3.2.2.2 a0).bind fun v7 => (rdI s3.2.2.2 v7 s3.2.2.1).bind fun v8 => jn (fun (u9 : Int32) (u10 : Int32) (M11 : AM) => some (.inl (u9, u10, (s3.2.2.1 + (1 : Int32)), M11))) fun j12 => jn ((gR 4 6 s3.2.2.2 a0).bind fun v13 => (aln s3.2.2.2 v13).bind fun v14 => if v14 ≤ s3.1 then j12 s3.1 s3.2.1 s3.2.2.2 else (gR 4 6 s3.2.2.2 a0).bind fun v16 => jn (fun (u17 : Int32) => (wrI s3.2.2.2 v16 s3.1 u17).bind fun M18 => j12 (s3.1 + (1 : Int32)) s3.2.1 M18) fun j19 => if v8 = (21 : Int32) then (gR 4 1 s3.2.2.2 a0).bind fun v21 => (rdI s3.2.2.2 v21 s3.2.2.1).bind fun v22 => j19 v22 else (gR 4 5 s3.2.2.2 a0).bind fun v23 => (rdI s3.2.2.2 v23 (v8 - (16 : Int32))).bind fun v24 => j19 v24) fun j25 => if v8 = (21 : Int32) then j25 else jn (jn (if s3.1 ≤ (1 : Int32) then j12 s3.1 s3.2.1 s3.2.2.2 else (gR 4 6 s3.2.2.2 a0).bind fun v28 => (rdI s3.2.2.2 v28 (s3.1 + (-1 : Int32))).bind fun v29 => jn (fun (u30 : Int32) => (gR 4 6 s3.2.2.2 a0).bind fun v31 => (rdI s3.2.2.2 v31 ((s3.1 + (-1 : Int32)) - (1 : Int32))).bind fun v32 => (F_X4_combine n s3.2.2.2 v8 v32 v29).bind fun v33 => (F_X2_isComparison n s3.2.2.2 v8).bind fun v34 => jn (fun (u35 : Int32) (u36 : Int32) => (gR 4 6 s3.2.2.2 a0).bind fun v37 => (wrI s3.2.2.2 v37 ((s3.1 + (-1 : Int32)) - (1 : Int32)) u36).bind fun M38 => j12 (s3.1 + (-1 : Int32)) u35 M38) fun j39 => if v34 = 0 then j39 u30 v33 else jn (fun (u41 : Int32) => j39 (0 : Int32) u41) fun j42 => if u30 = 0 then j42 v33 else j42 (0 : Int32)) fun j44 => jn (j44 (1 : Int32)) fun j45 => if s3.2.1 = 0 then jn (j44 (0 : Int32)) fun j47 => if v8 = (27 : Int32) then if v29 = 0 then j45 else j47 else j47 else j45) fun j50 => if v8 = (15 : Int32) then if s3.1 ≤ 0 then j50 else (gR 4 6 s3.2.2.2 a0).bind fun v53 => (gR 4 6 s3.2.2.2 a0).bind fun v54 => (rdI s3.2.2.2 v54 (s3.1 - (1 : Int32))).bind fun v55 => (wrI s3.2.2.2 v53 (s3.1 - (1 : Int32)) ((1 : Int32) - v55)).bind fun M56 => j12 s3.1 s3.2.1 M56 else j50) fun j57 => if v8 < (16 : Int32) then j57 else if (19 : Int32) < v8 then j57 else j25) n ((0 : Int32), (0 : Int32), v2, M)).bind fun (e3 : Int32 × AM) => if e3.1 ≤ 0 then some ((0 : Int32), e3.2) else (gR 4 6 e3.2 a0).bind fun v61 => (rdI e3.2 v61 (0 : Int32)).bind fun v62 => if v62 = 0 then some ((0 : Int32), e3.2) else some ((1 : Int32), e3.2)
set_option maxRecDepth 100000 in
set_option maxHeartbeats 4000000 in
theorem C_X4_holds {n : Nat} {M : AM} {a0 : Nat} {a1 : Int32} {o : (Int32 × AM)} (h : F_X4_holds n M a0 a1 = some o) : Cn yX4_holds cX4_holds 8 (some .boolean) 1 [.ref a0, .int a1] M (some (.int o.1)) o.2 := by
  unfold F_X4_holds at h
  refine Cn.of rfl (Nat.le_of_ble_eq_true rfl) ?_
  show G yX4_holds cX4_holds 8 (some .boolean) 1 0 [(0, .ref a0), (1, .int a1)] [] M (some (.int o.1)) o.2
  refine G.iconst (0 : Int32) dX4_holds_0 ki_0 ?_
  refine G.istore_n (lv' := [(2, .int (0 : Int32)), (0, .ref a0), (1, .int a1)]) dX4_holds_1 rfl (Nat.le_of_ble_eq_true rfl) rfl ?_
  refine G.iconst (0 : Int32) dX4_holds_2 ki_0 ?_
  refine G.istore_n (lv' := [(3, .int (0 : Int32)), (2, .int (0 : Int32)), (0, .ref a0), (1, .int a1)]) dX4_holds_3 rfl (Nat.le_of_ble_eq_true rfl) rfl ?_
  refine G.aload_n dX4_holds_4 rfl rfl ?_
  refine G.getR dX4_holds_5 fkX4_18 fr4_2 h (fun v1 h => ?_)
  refine G.iload_n dX4_holds_8 rfl rfl ?_
  refine G.iald dX4_holds_9 h (fun v2 h => ?_)
  refine G.istore (lv' := [(4, .int v2), (3, .int (0 : Int32)), (2, .int (0 : Int32)), (0, .ref a0), (1, .int a1)]) dX4_holds_10 (Nat.le_of_ble_eq_true rfl) rfl ?_
  refine G.sub (lv' := [(0, .ref a0), (1, .int a1), (2, .int (0 : Int32)), (3, .int (0 : Int32)), (4, .int v2)]) [3, 4, 2, 1, 0] rfl ?_
  refine loopE (fun (s3 : Int32 × Int32 × Int32 × AM) => G yX4_holds cX4_holds 8 (some .boolean) 1 12 [(0, .ref a0), (1, .int a1), (2, .int s3.1), (3, .int s3.2.1), (4, .int s3.2.2.1)] [] s3.2.2.2 (some (.int o.1)) o.2) (fun (e3 : Int32 × AM) => G yX4_holds cX4_holds 8 (some .boolean) 1 226 [(0, .ref a0), (2, .int e3.1)] [] e3.2 (some (.int o.1)) o.2) h ?_ ?_
  · intro e3 h
    show G yX4_holds cX4_holds 8 (some .boolean) 1 226 [(0, .ref a0), (2, .int e3.1)] [] e3.2 (some (.int o.1)) o.2
    refine G.iload_n dX4_holds_226 rfl rfl ?_
    refine G.if_le 243 dX4_holds_227 (by decide) h (fun c60 h => ?_) (fun c60 h => ?_)
    · refine G.iconst (0 : Int32) dX4_holds_243 ki_0 ?_
      exact G.iretW dX4_holds_244 rfl (by decide) h
    · refine G.aload_n dX4_holds_230 rfl rfl ?_
      refine G.getR dX4_holds_231 fkX4_30 fr4_6 h (fun v61 h => ?_)
      refine G.iconst (0 : Int32) dX4_holds_234 ki_0 ?_
      refine G.iald dX4_holds_235 h (fun v62 h => ?_)
      refine G.if_eq 243 dX4_holds_236 (by decide) h (fun c63 h => ?_) (fun c63 h => ?_)
      · refine G.iconst (0 : Int32) dX4_holds_243 ki_0 ?_
        exact G.iretW dX4_holds_244 rfl (by decide) h
      · refine G.iconst (1 : Int32) dX4_holds_239 ki_1 ?_
        refine G.goto 244 dX4_holds_240 (by decide) ?_
        exact G.iretW dX4_holds_244 rfl (by decide) h
  · intro s3 x3 h K3
    show G yX4_holds cX4_holds 8 (some .boolean) 1 12 [(0, .ref a0), (1, .int a1), (2, .int s3.1), (3, .int s3.2.1), (4, .int s3.2.2.1)] [] s3.2.2.2 (some (.int o.1)) o.2
    refine G.iload dX4_holds_12 rfl ?_
    refine G.aload_n dX4_holds_14 rfl rfl ?_
    refine G.getR dX4_holds_15 fkX4_21 fr4_3 h (fun v4 h => ?_)
    refine G.iload_n dX4_holds_18 rfl rfl ?_
    refine G.iald dX4_holds_19 h (fun v5 h => ?_)
    refine G.icmp_ge 226 dX4_holds_20 (by decide) h (fun c6 h => ?_) (fun c6 h => ?_)
    · refine G.sub (lv' := [(0, .ref a0), (2, .int s3.1)]) [0, 2] rfl ?_
      have h := leafR' h K3
      exact h
    · refine G.aload_n dX4_holds_23 rfl rfl ?_
      refine G.getR dX4_holds_24 fkX4_9 fr4_0 h (fun v7 h => ?_)
      refine G.iload dX4_holds_27 rfl ?_
      refine G.iald dX4_holds_29 h (fun v8 h => ?_)
      refine G.istore (lv' := [(5, .int v8), (0, .ref a0), (1, .int a1), (2, .int s3.1), (3, .int s3.2.1), (4, .int s3.2.2.1)]) dX4_holds_30 (Nat.le_of_ble_eq_true rfl) rfl ?_
      refine G.iload dX4_holds_32 rfl ?_
      refine G.bipush (21 : Int32) dX4_holds_34 kb_21 ?_
      refine jn_elim (fun j12 => ∀ (u9 : Int32) (u10 : Int32) (M11 : AM), j12 u9 u10 M11 = some x3 → G yX4_holds cX4_holds 8 (some .boolean) 1 220 [(0, .ref a0), (1, .int a1), (2, .int u9), (3, .int u10), (4, .int s3.2.2.1)] [] M11 (some (.int o.1)) o.2) h ?_ ?_
      · intro u9 u10 M11 h
        refine G.iinc s3.2.2.1 (w := (s3.2.2.1 + (1 : Int32))) (lv' := [(4, .int (s3.2.2.1 + (1 : Int32))), (0, .ref a0), (1, .int a1), (2, .int u9), (3, .int u10)]) dX4_holds_220 rfl rfl (Nat.le_of_ble_eq_true rfl) rfl ?_
        refine G.goto 12 dX4_holds_223 (by decide) ?_
        refine G.sub (lv' := [(0, .ref a0), (1, .int a1), (2, .int u9), (3, .int u10), (4, .int (s3.2.2.1 + (1 : Int32)))]) [1, 2, 3, 4, 0] rfl ?_
        have h := leafL' h K3
        exact h
      · intro j12 Jj12 h
        refine jn_elim (fun j25 => j25 = some x3 → G yX4_holds cX4_holds 8 (some .boolean) 1 53 [(0, .ref a0), (1, .int a1), (2, .int s3.1), (3, .int s3.2.1), (4, .int s3.2.2.1), (5, .int v8)] [] s3.2.2.2 (some (.int o.1)) o.2) h ?_ ?_
        · intro h
          refine G.iload_n dX4_holds_53 rfl rfl ?_
          refine G.aload_n dX4_holds_54 rfl rfl ?_
          refine G.getR dX4_holds_55 fkX4_30 fr4_6 h (fun v13 h => ?_)
          refine G.alen dX4_holds_58 h (fun v14 h => ?_)
          refine G.icmp_ge 220 dX4_holds_59 (by decide) h (fun c15 h => ?_) (fun c15 h => ?_)
          · refine G.sub (lv' := [(0, .ref a0), (1, .int a1), (2, .int s3.1), (3, .int s3.2.1), (4, .int s3.2.2.1)]) [0, 1, 2, 3, 4] rfl ?_
            exact Jj12 _ _ _ h
          · refine G.aload_n dX4_holds_62 rfl rfl ?_
            refine G.getR dX4_holds_63 fkX4_30 fr4_6 h (fun v16 h => ?_)
            refine G.iload_n dX4_holds_66 rfl rfl ?_
            refine G.iload dX4_holds_67 rfl ?_
            refine G.bipush (21 : Int32) dX4_holds_69 kb_21 ?_
            refine jn_elim (fun j19 => ∀ (u17 : Int32), j19 u17 = some x3 → G yX4_holds cX4_holds 8 (some .boolean) 1 94 [(0, .ref a0), (1, .int a1), (2, .int s3.1), (3, .int s3.2.1), (4, .int s3.2.2.1)] [.int u17, .int s3.1, .ref v16] s3.2.2.2 (some (.int o.1)) o.2) h ?_ ?_
            · intro u17 h
              refine G.iast dX4_holds_94 h (fun M18 h => ?_)
              refine G.iinc s3.1 (w := (s3.1 + (1 : Int32))) (lv' := [(2, .int (s3.1 + (1 : Int32))), (0, .ref a0), (1, .int a1), (3, .int s3.2.1), (4, .int s3.2.2.1)]) dX4_holds_95 rfl rfl (Nat.le_of_ble_eq_true rfl) rfl ?_
              refine G.goto 220 dX4_holds_98 (by decide) ?_
              refine G.sub (lv' := [(0, .ref a0), (1, .int a1), (2, .int (s3.1 + (1 : Int32))), (3, .int s3.2.1), (4, .int s3.2.2.1)]) [1, 2, 0, 3, 4] rfl ?_
              exact Jj12 _ _ _ h
            · intro j19 Jj19 h
              refine G.icmp_ne 84 dX4_holds_71 (by decide) h (fun c20 h => ?_) (fun c20 h => ?_)
              · refine G.aload_n dX4_holds_74 rfl rfl ?_
                refine G.getR dX4_holds_75 fkX4_15 fr4_1 h (fun v21 h => ?_)
                refine G.iload dX4_holds_78 rfl ?_
                refine G.iald dX4_holds_80 h (fun v22 h => ?_)
                refine G.goto 94 dX4_holds_81 (by decide) ?_
                refine G.sub (lv' := [(0, .ref a0), (1, .int a1), (2, .int s3.1), (3, .int s3.2.1), (4, .int s3.2.2.1)]) [0, 1, 2, 3, 4] rfl ?_
                exact Jj19 _ h
              · refine G.aload_n dX4_holds_84 rfl rfl ?_
                refine G.getR dX4_holds_85 fkX4_27 fr4_5 h (fun v23 h => ?_)
                refine G.iload dX4_holds_88 rfl ?_
                refine G.bipush (16 : Int32) dX4_holds_90 kb_16 ?_
                refine G.isub dX4_holds_92 ?_
                refine G.iald dX4_holds_93 h (fun v24 h => ?_)
                refine G.sub (lv' := [(0, .ref a0), (1, .int a1), (2, .int s3.1), (3, .int s3.2.1), (4, .int s3.2.2.1)]) [0, 1, 2, 3, 4] rfl ?_
                exact Jj19 _ h
        · intro j25 Jj25 h
          refine G.icmp_eq 53 dX4_holds_36 (by decide) h (fun c26 h => ?_) (fun c26 h => ?_)
          · refine G.sub (lv' := [(0, .ref a0), (1, .int a1), (2, .int s3.1), (3, .int s3.2.1), (4, .int s3.2.2.1), (5, .int v8)]) [1, 2, 3, 4, 5, 0] rfl ?_
            exact Jj25  h
          · refine G.iload dX4_holds_39 rfl ?_
            refine G.bipush (16 : Int32) dX4_holds_41 kb_16 ?_
            refine jn_elim (fun j57 => j57 = some x3 → G yX4_holds cX4_holds 8 (some .boolean) 1 101 [(0, .ref a0), (1, .int a1), (2, .int s3.1), (3, .int s3.2.1), (4, .int s3.2.2.1), (5, .int v8)] [] s3.2.2.2 (some (.int o.1)) o.2) h ?_ ?_
            · intro h
              refine G.iload dX4_holds_101 rfl ?_
              refine G.bipush (15 : Int32) dX4_holds_103 kb_15 ?_
              refine jn_elim (fun j50 => j50 = some x3 → G yX4_holds cX4_holds 8 (some .boolean) 1 133 [(0, .ref a0), (1, .int a1), (2, .int s3.1), (3, .int s3.2.1), (4, .int s3.2.2.1), (5, .int v8)] [] s3.2.2.2 (some (.int o.1)) o.2) h ?_ ?_
              · intro h
                refine G.iload_n dX4_holds_133 rfl rfl ?_
                refine G.iconst (1 : Int32) dX4_holds_134 ki_1 ?_
                refine G.icmp_le 220 dX4_holds_135 (by decide) h (fun c27 h => ?_) (fun c27 h => ?_)
                · refine G.sub (lv' := [(0, .ref a0), (1, .int a1), (2, .int s3.1), (3, .int s3.2.1), (4, .int s3.2.2.1)]) [0, 1, 2, 3, 4] rfl ?_
                  exact Jj12 _ _ _ h
                · refine G.iinc s3.1 (w := (s3.1 + (-1 : Int32))) (lv' := [(2, .int (s3.1 + (-1 : Int32))), (0, .ref a0), (1, .int a1), (3, .int s3.2.1), (4, .int s3.2.2.1), (5, .int v8)]) dX4_holds_138 rfl rfl (Nat.le_of_ble_eq_true rfl) rfl ?_
                  refine G.aload_n dX4_holds_141 rfl rfl ?_
                  refine G.getR dX4_holds_142 fkX4_30 fr4_6 h (fun v28 h => ?_)
                  refine G.iload_n dX4_holds_145 rfl rfl ?_
                  refine G.iald dX4_holds_146 h (fun v29 h => ?_)
                  refine G.istore (lv' := [(6, .int v29), (2, .int (s3.1 + (-1 : Int32))), (0, .ref a0), (1, .int a1), (3, .int s3.2.1), (4, .int s3.2.2.1), (5, .int v8)]) dX4_holds_147 (Nat.le_of_ble_eq_true rfl) rfl ?_
                  refine G.iload_n dX4_holds_149 rfl rfl ?_
                  refine jn_elim (fun j44 => ∀ (u30 : Int32), j44 u30 = some x3 → G yX4_holds cX4_holds 8 (some .boolean) 1 170 [(0, .ref a0), (1, .int a1), (2, .int (s3.1 + (-1 : Int32))), (4, .int s3.2.2.1), (5, .int v8), (6, .int v29)] [.int u30] s3.2.2.2 (some (.int o.1)) o.2) h ?_ ?_
                  · intro u30 h
                    refine G.istore_n (lv' := [(3, .int u30), (0, .ref a0), (1, .int a1), (2, .int (s3.1 + (-1 : Int32))), (4, .int s3.2.2.1), (5, .int v8), (6, .int v29)]) dX4_holds_170 rfl (Nat.le_of_ble_eq_true rfl) rfl ?_
                    refine G.iload dX4_holds_171 rfl ?_
                    refine G.aload_n dX4_holds_173 rfl rfl ?_
                    refine G.getR dX4_holds_174 fkX4_30 fr4_6 h (fun v31 h => ?_)
                    refine G.iload_n dX4_holds_177 rfl rfl ?_
                    refine G.iconst (1 : Int32) dX4_holds_178 ki_1 ?_
                    refine G.isub dX4_holds_179 ?_
                    refine G.iald dX4_holds_180 h (fun v32 h => ?_)
                    refine G.iload dX4_holds_181 rfl ?_
                    refine G.callSi [.int v8, .int v32, .int v29] [] dX4_holds_183 lkX4_50 okX4_combine (fun v hv => C_X4_combine hv) (Nat.le_of_ble_eq_true rfl) rfl rfl (Nat.le_of_ble_eq_true rfl) h (fun v33 h => ?_)
                    refine G.istore (lv' := [(7, .int v33), (3, .int u30), (0, .ref a0), (1, .int a1), (2, .int (s3.1 + (-1 : Int32))), (4, .int s3.2.2.1), (5, .int v8), (6, .int v29)]) dX4_holds_186 (Nat.le_of_ble_eq_true rfl) rfl ?_
                    refine G.iload dX4_holds_188 rfl ?_
                    refine G.callSi [.int v8] [] dX4_holds_190 lkX4_54 okX2_isComparison (fun v hv => C_X2_isComparison hv) (Nat.le_of_ble_eq_true rfl) rfl rfl (Nat.le_of_ble_eq_true rfl) h (fun v34 h => ?_)
                    refine jn_elim (fun j39 => ∀ (u35 : Int32) (u36 : Int32), j39 u35 u36 = some x3 → G yX4_holds cX4_holds 8 (some .boolean) 1 210 [(0, .ref a0), (1, .int a1), (2, .int (s3.1 + (-1 : Int32))), (3, .int u35), (4, .int s3.2.2.1), (7, .int u36)] [] s3.2.2.2 (some (.int o.1)) o.2) h ?_ ?_
                    · intro u35 u36 h
                      refine G.aload_n dX4_holds_210 rfl rfl ?_
                      refine G.getR dX4_holds_211 fkX4_30 fr4_6 h (fun v37 h => ?_)
                      refine G.iload_n dX4_holds_214 rfl rfl ?_
                      refine G.iconst (1 : Int32) dX4_holds_215 ki_1 ?_
                      refine G.isub dX4_holds_216 ?_
                      refine G.iload dX4_holds_217 rfl ?_
                      refine G.iast dX4_holds_219 h (fun M38 h => ?_)
                      refine G.sub (lv' := [(0, .ref a0), (1, .int a1), (2, .int (s3.1 + (-1 : Int32))), (3, .int u35), (4, .int s3.2.2.1)]) [0, 1, 2, 3, 4] rfl ?_
                      exact Jj12 _ _ _ h
                    · intro j39 Jj39 h
                      refine G.if_eq 210 dX4_holds_193 (by decide) h (fun c40 h => ?_) (fun c40 h => ?_)
                      · refine G.sub (lv' := [(0, .ref a0), (1, .int a1), (2, .int (s3.1 + (-1 : Int32))), (3, .int u30), (4, .int s3.2.2.1), (7, .int v33)]) [2, 3, 4, 1, 5, 0] rfl ?_
                        exact Jj39 _ _ h
                      · refine G.iload_n dX4_holds_196 rfl rfl ?_
                        refine jn_elim (fun j42 => ∀ (u41 : Int32), j42 u41 = some x3 → G yX4_holds cX4_holds 8 (some .boolean) 1 206 [(0, .ref a0), (1, .int a1), (2, .int (s3.1 + (-1 : Int32))), (4, .int s3.2.2.1)] [.int u41] s3.2.2.2 (some (.int o.1)) o.2) h ?_ ?_
                        · intro u41 h
                          refine G.istore (lv' := [(7, .int u41), (0, .ref a0), (1, .int a1), (2, .int (s3.1 + (-1 : Int32))), (4, .int s3.2.2.1)]) dX4_holds_206 (Nat.le_of_ble_eq_true rfl) rfl ?_
                          refine G.iconst (0 : Int32) dX4_holds_208 ki_0 ?_
                          refine G.istore_n (lv' := [(3, .int (0 : Int32)), (7, .int u41), (0, .ref a0), (1, .int a1), (2, .int (s3.1 + (-1 : Int32))), (4, .int s3.2.2.1)]) dX4_holds_209 rfl (Nat.le_of_ble_eq_true rfl) rfl ?_
                          refine G.sub (lv' := [(0, .ref a0), (1, .int a1), (2, .int (s3.1 + (-1 : Int32))), (3, .int (0 : Int32)), (4, .int s3.2.2.1), (7, .int u41)]) [2, 3, 4, 0, 5, 1] rfl ?_
                          exact Jj39 _ _ h
                        · intro j42 Jj42 h
                          refine G.if_eq 204 dX4_holds_197 (by decide) h (fun c43 h => ?_) (fun c43 h => ?_)
                          · refine G.iload dX4_holds_204 rfl ?_
                            refine G.sub (lv' := [(0, .ref a0), (1, .int a1), (2, .int (s3.1 + (-1 : Int32))), (4, .int s3.2.2.1)]) [2, 3, 4, 5] rfl ?_
                            exact Jj42 _ h
                          · refine G.iconst (0 : Int32) dX4_holds_200 ki_0 ?_
                            refine G.goto 206 dX4_holds_201 (by decide) ?_
                            refine G.sub (lv' := [(0, .ref a0), (1, .int a1), (2, .int (s3.1 + (-1 : Int32))), (4, .int s3.2.2.1)]) [2, 3, 4, 5] rfl ?_
                            exact Jj42 _ h
                  · intro j44 Jj44 h
                    refine jn_elim (fun j45 => j45 = some x3 → G yX4_holds cX4_holds 8 (some .boolean) 1 165 [(0, .ref a0), (1, .int a1), (2, .int (s3.1 + (-1 : Int32))), (4, .int s3.2.2.1), (5, .int v8), (6, .int v29)] [] s3.2.2.2 (some (.int o.1)) o.2) h ?_ ?_
                    · intro h
                      refine G.iconst (1 : Int32) dX4_holds_165 ki_1 ?_
                      refine G.goto 170 dX4_holds_166 (by decide) ?_
                      refine G.sub (lv' := [(0, .ref a0), (1, .int a1), (2, .int (s3.1 + (-1 : Int32))), (4, .int s3.2.2.1), (5, .int v8), (6, .int v29)]) [0, 1, 2, 3, 4, 5] rfl ?_
                      exact Jj44 _ h
                    · intro j45 Jj45 h
                      refine G.if_ne 165 dX4_holds_150 (by decide) h (fun c46 h => ?_) (fun c46 h => ?_)
                      · refine G.iload dX4_holds_153 rfl ?_
                        refine G.bipush (27 : Int32) dX4_holds_155 kb_27 ?_
                        refine jn_elim (fun j47 => j47 = some x3 → G yX4_holds cX4_holds 8 (some .boolean) 1 169 [(0, .ref a0), (1, .int a1), (2, .int (s3.1 + (-1 : Int32))), (4, .int s3.2.2.1), (5, .int v8), (6, .int v29)] [] s3.2.2.2 (some (.int o.1)) o.2) h ?_ ?_
                        · intro h
                          refine G.iconst (0 : Int32) dX4_holds_169 ki_0 ?_
                          refine G.sub (lv' := [(0, .ref a0), (1, .int a1), (2, .int (s3.1 + (-1 : Int32))), (4, .int s3.2.2.1), (5, .int v8), (6, .int v29)]) [0, 1, 2, 3, 4, 5] rfl ?_
                          exact Jj44 _ h
                        · intro j47 Jj47 h
                          refine G.icmp_ne 169 dX4_holds_157 (by decide) h (fun c48 h => ?_) (fun c48 h => ?_)
                          · refine G.iload dX4_holds_160 rfl ?_
                            refine G.if_ne 169 dX4_holds_162 (by decide) h (fun c49 h => ?_) (fun c49 h => ?_)
                            · refine G.sub (lv' := [(0, .ref a0), (1, .int a1), (2, .int (s3.1 + (-1 : Int32))), (4, .int s3.2.2.1), (5, .int v8), (6, .int v29)]) [2, 3, 1, 5, 6, 0] rfl ?_
                              exact Jj45  h
                            · refine G.sub (lv' := [(0, .ref a0), (1, .int a1), (2, .int (s3.1 + (-1 : Int32))), (4, .int s3.2.2.1), (5, .int v8), (6, .int v29)]) [2, 3, 1, 5, 6, 0] rfl ?_
                              exact Jj47  h
                          · refine G.sub (lv' := [(0, .ref a0), (1, .int a1), (2, .int (s3.1 + (-1 : Int32))), (4, .int s3.2.2.1), (5, .int v8), (6, .int v29)]) [2, 3, 1, 5, 6, 0] rfl ?_
                            exact Jj47  h
                      · refine G.sub (lv' := [(0, .ref a0), (1, .int a1), (2, .int (s3.1 + (-1 : Int32))), (4, .int s3.2.2.1), (5, .int v8), (6, .int v29)]) [2, 3, 1, 5, 6, 0] rfl ?_
                        exact Jj45  h
              · intro j50 Jj50 h
                refine G.icmp_ne 133 dX4_holds_105 (by decide) h (fun c51 h => ?_) (fun c51 h => ?_)
                · refine G.iload_n dX4_holds_108 rfl rfl ?_
                  refine G.if_le 133 dX4_holds_109 (by decide) h (fun c52 h => ?_) (fun c52 h => ?_)
                  · refine G.sub (lv' := [(0, .ref a0), (1, .int a1), (2, .int s3.1), (3, .int s3.2.1), (4, .int s3.2.2.1), (5, .int v8)]) [0, 1, 2, 3, 4, 5] rfl ?_
                    exact Jj50  h
                  · refine G.aload_n dX4_holds_112 rfl rfl ?_
                    refine G.getR dX4_holds_113 fkX4_30 fr4_6 h (fun v53 h => ?_)
                    refine G.iload_n dX4_holds_116 rfl rfl ?_
                    refine G.iconst (1 : Int32) dX4_holds_117 ki_1 ?_
                    refine G.isub dX4_holds_118 ?_
                    refine G.iconst (1 : Int32) dX4_holds_119 ki_1 ?_
                    refine G.aload_n dX4_holds_120 rfl rfl ?_
                    refine G.getR dX4_holds_121 fkX4_30 fr4_6 h (fun v54 h => ?_)
                    refine G.iload_n dX4_holds_124 rfl rfl ?_
                    refine G.iconst (1 : Int32) dX4_holds_125 ki_1 ?_
                    refine G.isub dX4_holds_126 ?_
                    refine G.iald dX4_holds_127 h (fun v55 h => ?_)
                    refine G.isub dX4_holds_128 ?_
                    refine G.iast dX4_holds_129 h (fun M56 h => ?_)
                    refine G.goto 220 dX4_holds_130 (by decide) ?_
                    refine G.sub (lv' := [(0, .ref a0), (1, .int a1), (2, .int s3.1), (3, .int s3.2.1), (4, .int s3.2.2.1)]) [0, 1, 2, 3, 4] rfl ?_
                    exact Jj12 _ _ _ h
                · refine G.sub (lv' := [(0, .ref a0), (1, .int a1), (2, .int s3.1), (3, .int s3.2.1), (4, .int s3.2.2.1), (5, .int v8)]) [0, 1, 2, 3, 4, 5] rfl ?_
                  exact Jj50  h
            · intro j57 Jj57 h
              refine G.icmp_lt 101 dX4_holds_43 (by decide) h (fun c58 h => ?_) (fun c58 h => ?_)
              · refine G.sub (lv' := [(0, .ref a0), (1, .int a1), (2, .int s3.1), (3, .int s3.2.1), (4, .int s3.2.2.1), (5, .int v8)]) [1, 2, 3, 4, 5, 0] rfl ?_
                exact Jj57  h
              · refine G.iload dX4_holds_46 rfl ?_
                refine G.bipush (19 : Int32) dX4_holds_48 kb_19 ?_
                refine G.icmp_gt 101 dX4_holds_50 (by decide) h (fun c59 h => ?_) (fun c59 h => ?_)
                · refine G.sub (lv' := [(0, .ref a0), (1, .int a1), (2, .int s3.1), (3, .int s3.2.1), (4, .int s3.2.2.1), (5, .int v8)]) [1, 2, 3, 4, 5, 0] rfl ?_
                  exact Jj57  h
                · refine G.sub (lv' := [(0, .ref a0), (1, .int a1), (2, .int s3.1), (3, .int s3.2.1), (4, .int s3.2.2.1), (5, .int v8)]) [1, 2, 3, 4, 5, 0] rfl ?_
                  exact Jj25  h
-- OnlyUpward$Laws.allow(ZIIII)Z
set_option maxRecDepth 100000 in
set_option maxHeartbeats 4000000 in
def F_X4_allow (n : Nat) (M : AM) (a0 : Nat) (a1 : Int32) (a2 : Int32) (a3 : Int32) (a4 : Int32) (a5 : Int32) : Option (Int32 × AM) :=
  jn (fun (u1 : Int32) => (gR 4 4 M a0).bind fun v2 => (rdI M v2 u1).bind fun v3 => if v3 = 0 then jn (some ((1 : Int32), M)) fun j5 => if a1 = 0 then if a3 < a2 then some ((0 : Int32), M) else j5 else j5 else (gR 4 5 M a0).bind fun v8 => (wrI M v8 (0 : Int32) a2).bind fun M9 => (gR 4 5 M9 a0).bind fun v10 => (wrI M9 v10 (1 : Int32) a3).bind fun M11 => (gR 4 5 M11 a0).bind fun v12 => (wrI M11 v12 (2 : Int32) a4).bind fun M13 => (gR 4 5 M13 a0).bind fun v14 => (wrI M13 v14 (3 : Int32) a5).bind fun M15 => (iter (fun (s16 : Int32 × AM) => (gR 4 4 s16.2 a0).bind fun v17 => (rdI s16.2 v17 u1).bind fun v18 => if v18 ≤ s16.1 then some (.inr (.inl s16.2)) else (rcv 4 s16.2 a0 (F_X4_holds n s16.2 a0 ((u1 * (4 : Int32)) + s16.1))).bind fun v20 => if v20.1 = 0 then some (.inl ((s16.1 + (1 : Int32)), v20.2)) else some (.inr (.inr ((1 : Int32), v20.2)))) n ((0 : Int32), M15)).bind fun (z16 : (AM) ⊕ (Int32 × AM)) => Sum.elim (fun (e16 : AM) => some ((0 : Int32), e16)) (fun (v : (Int32 × AM)) => some v) z16) fun j22 => if a1 = 0 then j22 (0 : Int32) else j22 (1 : Int32)
set_option maxRecDepth 100000 in
set_option maxHeartbeats 4000000 in
theorem C_X4_allow {n : Nat} {M : AM} {a0 : Nat} {a1 : Int32} {a2 : Int32} {a3 : Int32} {a4 : Int32} {a5 : Int32} {o : (Int32 × AM)} (h : F_X4_allow n M a0 a1 a2 a3 a4 a5 = some o) : Cn yX4_allow cX4_allow 8 (some .boolean) 2 [.ref a0, .int a1, .int a2, .int a3, .int a4, .int a5] M (some (.int o.1)) o.2 := by
  unfold F_X4_allow at h
  refine Cn.of rfl (Nat.le_of_ble_eq_true rfl) ?_
  show G yX4_allow cX4_allow 8 (some .boolean) 2 0 [(0, .ref a0), (1, .int a1), (2, .int a2), (3, .int a3), (4, .int a4), (5, .int a5)] [] M (some (.int o.1)) o.2
  refine G.iload_n dX4_allow_0 rfl rfl ?_
  refine jn_elim (fun j22 => ∀ (u1 : Int32), j22 u1 = some o → G yX4_allow cX4_allow 8 (some .boolean) 2 9 [(0, .ref a0), (1, .int a1), (2, .int a2), (3, .int a3), (4, .int a4), (5, .int a5)] [.int u1] M (some (.int o.1)) o.2) h ?_ ?_
  · intro u1 h
    refine G.istore (lv' := [(6, .int u1), (0, .ref a0), (1, .int a1), (2, .int a2), (3, .int a3), (4, .int a4), (5, .int a5)]) dX4_allow_9 (Nat.le_of_ble_eq_true rfl) rfl ?_
    refine G.aload_n dX4_allow_11 rfl rfl ?_
    refine G.getR dX4_allow_12 fkX4_24 fr4_4 h (fun v2 h => ?_)
    refine G.iload dX4_allow_15 rfl ?_
    refine G.iald dX4_allow_17 h (fun v3 h => ?_)
    refine G.if_ne 36 dX4_allow_18 (by decide) h (fun c4 h => ?_) (fun c4 h => ?_)
    · refine G.iload_n dX4_allow_21 rfl rfl ?_
      refine jn_elim (fun j5 => j5 = some o → G yX4_allow cX4_allow 8 (some .boolean) 2 30 [] [] M (some (.int o.1)) o.2) h ?_ ?_
      · intro h
        refine G.iconst (1 : Int32) dX4_allow_30 ki_1 ?_
        refine G.goto 35 dX4_allow_31 (by decide) ?_
        exact G.iretW dX4_allow_35 rfl (by decide) h
      · intro j5 Jj5 h
        refine G.if_ne 30 dX4_allow_22 (by decide) h (fun c6 h => ?_) (fun c6 h => ?_)
        · refine G.iload_n dX4_allow_25 rfl rfl ?_
          refine G.iload_n dX4_allow_26 rfl rfl ?_
          refine G.icmp_gt 34 dX4_allow_27 (by decide) h (fun c7 h => ?_) (fun c7 h => ?_)
          · refine G.iconst (0 : Int32) dX4_allow_34 ki_0 ?_
            exact G.iretW dX4_allow_35 rfl (by decide) h
          · refine G.sub (lv' := []) [] rfl ?_
            exact Jj5  h
        · refine G.sub (lv' := []) [] rfl ?_
          exact Jj5  h
    · refine G.aload_n dX4_allow_36 rfl rfl ?_
      refine G.getR dX4_allow_37 fkX4_27 fr4_5 h (fun v8 h => ?_)
      refine G.iconst (0 : Int32) dX4_allow_40 ki_0 ?_
      refine G.iload_n dX4_allow_41 rfl rfl ?_
      refine G.iast dX4_allow_42 h (fun M9 h => ?_)
      refine G.aload_n dX4_allow_43 rfl rfl ?_
      refine G.getR dX4_allow_44 fkX4_27 fr4_5 h (fun v10 h => ?_)
      refine G.iconst (1 : Int32) dX4_allow_47 ki_1 ?_
      refine G.iload_n dX4_allow_48 rfl rfl ?_
      refine G.iast dX4_allow_49 h (fun M11 h => ?_)
      refine G.aload_n dX4_allow_50 rfl rfl ?_
      refine G.getR dX4_allow_51 fkX4_27 fr4_5 h (fun v12 h => ?_)
      refine G.iconst (2 : Int32) dX4_allow_54 ki_2 ?_
      refine G.iload dX4_allow_55 rfl ?_
      refine G.iast dX4_allow_57 h (fun M13 h => ?_)
      refine G.aload_n dX4_allow_58 rfl rfl ?_
      refine G.getR dX4_allow_59 fkX4_27 fr4_5 h (fun v14 h => ?_)
      refine G.iconst (3 : Int32) dX4_allow_62 ki_3 ?_
      refine G.iload dX4_allow_63 rfl ?_
      refine G.iast dX4_allow_65 h (fun M15 h => ?_)
      refine G.iconst (0 : Int32) dX4_allow_66 ki_0 ?_
      refine G.istore (lv' := [(7, .int (0 : Int32)), (6, .int u1), (0, .ref a0), (1, .int a1), (2, .int a2), (3, .int a3), (4, .int a4), (5, .int a5)]) dX4_allow_67 (Nat.le_of_ble_eq_true rfl) rfl ?_
      refine G.sub (lv' := [(0, .ref a0), (6, .int u1), (7, .int (0 : Int32))]) [2, 1, 0] rfl ?_
      refine loopE (fun (s16 : Int32 × AM) => G yX4_allow cX4_allow 8 (some .boolean) 2 69 [(0, .ref a0), (6, .int u1), (7, .int s16.1)] [] s16.2 (some (.int o.1)) o.2) (fun (z16 : (AM) ⊕ (Int32 × AM)) => Sum.elim (fun (e16 : AM) => G yX4_allow cX4_allow 8 (some .boolean) 2 103 [] [] e16 (some (.int o.1)) o.2) (fun (v : (Int32 × AM)) => some v = some o) z16) h ?_ ?_
      · intro z16 h
        rcases z16 with e16 | v
        · have h := sum_inl h
          show G yX4_allow cX4_allow 8 (some .boolean) 2 103 [] [] e16 (some (.int o.1)) o.2
          refine G.iconst (0 : Int32) dX4_allow_103 ki_0 ?_
          exact G.iretW dX4_allow_104 rfl (by decide) h
        · have h := sum_inr h
          exact h
      · intro s16 x16 h K16
        show G yX4_allow cX4_allow 8 (some .boolean) 2 69 [(0, .ref a0), (6, .int u1), (7, .int s16.1)] [] s16.2 (some (.int o.1)) o.2
        refine G.iload dX4_allow_69 rfl ?_
        refine G.aload_n dX4_allow_71 rfl rfl ?_
        refine G.getR dX4_allow_72 fkX4_24 fr4_4 h (fun v17 h => ?_)
        refine G.iload dX4_allow_75 rfl ?_
        refine G.iald dX4_allow_77 h (fun v18 h => ?_)
        refine G.icmp_ge 103 dX4_allow_78 (by decide) h (fun c19 h => ?_) (fun c19 h => ?_)
        · refine G.sub (lv' := []) [] rfl ?_
          have h := leafR' h K16
          exact h
        · refine G.aload_n dX4_allow_81 rfl rfl ?_
          refine G.iload dX4_allow_82 rfl ?_
          refine G.iconst (4 : Int32) dX4_allow_84 ki_4 ?_
          refine G.imul dX4_allow_85 ?_
          refine G.iload dX4_allow_86 rfl ?_
          refine G.iadd dX4_allow_88 ?_
          refine G.callVi (ci := 4) [.int ((u1 * (4 : Int32)) + s16.1)] [] dX4_allow_89 lkX4_46 okX4_holds rfl (fun v hv => C_X4_holds hv) (Nat.le_of_ble_eq_true rfl) rfl rfl (Nat.le_of_ble_eq_true rfl) h (fun v20 h => ?_)
          refine G.if_eq 97 dX4_allow_92 (by decide) h (fun c21 h => ?_) (fun c21 h => ?_)
          · refine G.iinc s16.1 (w := (s16.1 + (1 : Int32))) (lv' := [(7, .int (s16.1 + (1 : Int32))), (0, .ref a0), (6, .int u1)]) dX4_allow_97 rfl rfl (Nat.le_of_ble_eq_true rfl) rfl ?_
            refine G.goto 69 dX4_allow_100 (by decide) ?_
            refine G.sub (lv' := [(0, .ref a0), (6, .int u1), (7, .int (s16.1 + (1 : Int32)))]) [1, 2, 0] rfl ?_
            have h := leafL' h K16
            exact h
          · refine G.iconst (1 : Int32) dX4_allow_95 ki_1 ?_
            have h := leafR' h K16
            exact G.iretW dX4_allow_96 rfl (by decide) h
  · intro j22 Jj22 h
    refine G.if_eq 8 dX4_allow_1 (by decide) h (fun c23 h => ?_) (fun c23 h => ?_)
    · refine G.iconst (0 : Int32) dX4_allow_8 ki_0 ?_
      refine G.sub (lv' := [(0, .ref a0), (1, .int a1), (2, .int a2), (3, .int a3), (4, .int a4), (5, .int a5)]) [0, 1, 2, 3, 4, 5] rfl ?_
      exact Jj22 _ h
    · refine G.iconst (1 : Int32) dX4_allow_4 ki_1 ?_
      refine G.goto 9 dX4_allow_5 (by decide) ?_
      refine G.sub (lv' := [(0, .ref a0), (1, .int a1), (2, .int a2), (3, .int a3), (4, .int a4), (5, .int a5)]) [0, 1, 2, 3, 4, 5] rfl ?_
      exact Jj22 _ h
-- OnlyUpward$World.allows(IIIZI)Z
set_option maxRecDepth 100000 in
set_option maxHeartbeats 4000000 in
def F_X10_allows (n : Nat) (M : AM) (a0 : Nat) (a1 : Int32) (a2 : Int32) (a3 : Int32) (a4 : Int32) (a5 : Int32) : Option (Int32 × AM) :=
  (rcv 10 M a0 (F_X10_placeOf n M a0 a1 a3)).bind fun v1 => (rcv 10 M a0 (F_X10_standers n M a0 v1 a3)).bind fun v2 => (F_X11_hasBit n M (v2 &&& a5) a1).bind fun v3 => if v3 = 0 then some ((0 : Int32), M) else (F_X11_hasBit n M (v2 &&& a5) a2).bind fun v5 => if v5 = 0 then some ((0 : Int32), M) else (F_J6_bitCount_0f7a4 n M (v2 &&& a5)).bind fun v7 => (gR 10 12 M a0).bind fun v8 => (rcv 10 M a0 (F_X10_ageAt n M a0 a1 a3)).bind fun v9 => (rcv 10 M a0 (F_X10_ageAt n M a0 a2 a3)).bind fun v10 => (rcv 4 M v8 (F_X4_allow n M v8 a4 v9 v10 a3 v7)).bind fun v11 => gd (narrow .boolean (.int v11.1) = .int v11.1) (some (v11.1, v11.2))
set_option maxRecDepth 100000 in
set_option maxHeartbeats 4000000 in
theorem C_X10_allows {n : Nat} {M : AM} {a0 : Nat} {a1 : Int32} {a2 : Int32} {a3 : Int32} {a4 : Int32} {a5 : Int32} {o : (Int32 × AM)} (h : F_X10_allows n M a0 a1 a2 a3 a4 a5 = some o) : Cn yX10_allows cX10_allows 8 (some .boolean) 3 [.ref a0, .int a1, .int a2, .int a3, .int a4, .int a5] M (some (.int o.1)) o.2 := by
  unfold F_X10_allows at h
  refine Cn.of rfl (Nat.le_of_ble_eq_true rfl) ?_
  show G yX10_allows cX10_allows 8 (some .boolean) 3 0 [(0, .ref a0), (1, .int a1), (2, .int a2), (3, .int a3), (4, .int a4), (5, .int a5)] [] M (some (.int o.1)) o.2
  refine G.aload_n dX10_allows_0 rfl rfl ?_
  refine G.aload_n dX10_allows_1 rfl rfl ?_
  refine G.iload_n dX10_allows_2 rfl rfl ?_
  refine G.iload_n dX10_allows_3 rfl rfl ?_
  refine G.callVi (ci := 10) [.int a1, .int a3] [.ref a0] dX10_allows_4 lkX10_108 okX10_placeOf rfl (fun v hv => C_X10_placeOf hv) (Nat.le_of_ble_eq_true rfl) rfl rfl (Nat.le_of_ble_eq_true rfl) h (fun v1 h => ?_)
  refine G.iload_n dX10_allows_7 rfl rfl ?_
  refine G.callVi (ci := 10) [.int v1, .int a3] [] dX10_allows_8 lkX10_111 okX10_standers rfl (fun v hv => C_X10_standers hv) (Nat.le_of_ble_eq_true rfl) rfl rfl (Nat.le_of_ble_eq_true rfl) h (fun v2 h => ?_)
  refine G.iload dX10_allows_11 rfl ?_
  refine G.iand dX10_allows_13 ?_
  refine G.istore (lv' := [(6, .int (v2 &&& a5)), (0, .ref a0), (1, .int a1), (2, .int a2), (3, .int a3), (4, .int a4), (5, .int a5)]) dX10_allows_14 (Nat.le_of_ble_eq_true rfl) rfl ?_
  refine G.iload dX10_allows_16 rfl ?_
  refine G.iload_n dX10_allows_18 rfl rfl ?_
  refine G.callSi [.int (v2 &&& a5), .int a1] [] dX10_allows_19 lkX10_97 okX11_hasBit (fun v hv => C_X11_hasBit hv) (Nat.le_of_ble_eq_true rfl) rfl rfl (Nat.le_of_ble_eq_true rfl) h (fun v3 h => ?_)
  refine G.if_eq 34 dX10_allows_22 (by decide) h (fun c4 h => ?_) (fun c4 h => ?_)
  · refine G.iconst (0 : Int32) dX10_allows_34 ki_0 ?_
    exact G.iretW dX10_allows_35 rfl (by decide) h
  · refine G.iload dX10_allows_25 rfl ?_
    refine G.iload_n dX10_allows_27 rfl rfl ?_
    refine G.callSi [.int (v2 &&& a5), .int a2] [] dX10_allows_28 lkX10_97 okX11_hasBit (fun v hv => C_X11_hasBit hv) (Nat.le_of_ble_eq_true rfl) rfl rfl (Nat.le_of_ble_eq_true rfl) h (fun v5 h => ?_)
    refine G.if_ne 36 dX10_allows_31 (by decide) h (fun c6 h => ?_) (fun c6 h => ?_)
    · refine G.iconst (0 : Int32) dX10_allows_34 ki_0 ?_
      exact G.iretW dX10_allows_35 rfl (by decide) h
    · refine G.iload dX10_allows_36 rfl ?_
      refine G.callSi [.int (v2 &&& a5)] [] dX10_allows_38 lkX10_114 okJ6_bitCount_0f7a4 (fun v hv => C_J6_bitCount_0f7a4 hv) (Nat.le_of_ble_eq_true rfl) rfl rfl (Nat.le_of_ble_eq_true rfl) h (fun v7 h => ?_)
      refine G.istore (lv' := [(7, .int v7), (6, .int (v2 &&& a5)), (0, .ref a0), (1, .int a1), (2, .int a2), (3, .int a3), (4, .int a4), (5, .int a5)]) dX10_allows_41 (Nat.le_of_ble_eq_true rfl) rfl ?_
      refine G.aload_n dX10_allows_43 rfl rfl ?_
      refine G.getR dX10_allows_44 fkX10_51 fr10_12 h (fun v8 h => ?_)
      refine G.iload dX10_allows_47 rfl ?_
      refine G.aload_n dX10_allows_49 rfl rfl ?_
      refine G.iload_n dX10_allows_50 rfl rfl ?_
      refine G.iload_n dX10_allows_51 rfl rfl ?_
      refine G.callVi (ci := 10) [.int a1, .int a3] [.int a4, .ref v8] dX10_allows_52 lkX10_101 okX10_ageAt rfl (fun v hv => C_X10_ageAt hv) (Nat.le_of_ble_eq_true rfl) rfl rfl (Nat.le_of_ble_eq_true rfl) h (fun v9 h => ?_)
      refine G.aload_n dX10_allows_55 rfl rfl ?_
      refine G.iload_n dX10_allows_56 rfl rfl ?_
      refine G.iload_n dX10_allows_57 rfl rfl ?_
      refine G.callVi (ci := 10) [.int a2, .int a3] [.int v9, .int a4, .ref v8] dX10_allows_58 lkX10_101 okX10_ageAt rfl (fun v hv => C_X10_ageAt hv) (Nat.le_of_ble_eq_true rfl) rfl rfl (Nat.le_of_ble_eq_true rfl) h (fun v10 h => ?_)
      refine G.iload_n dX10_allows_61 rfl rfl ?_
      refine G.iload dX10_allows_62 rfl ?_
      refine G.callVi (ci := 4) [.int a4, .int v9, .int v10, .int a3, .int v7] [] dX10_allows_64 lkX10_120 okX4_allow rfl (fun v hv => C_X4_allow hv) (Nat.le_of_ble_eq_true rfl) rfl rfl (Nat.le_of_ble_eq_true rfl) h (fun v11 h => ?_)
      refine gd_elim h (fun c12 h => ?_)
      exact G.iretW dX10_allows_67 rfl (c12) h
-- OnlyUpward$World.othersToSayTo(II)I
set_option maxRecDepth 100000 in
set_option maxHeartbeats 4000000 in
def F_X10_othersToSayTo (n : Nat) (M : AM) (a0 : Nat) (a1 : Int32) (a2 : Int32) : Option (Int32 × AM) :=
  (iter (fun (s1 : Int32 × Int32 × AM) => (gR 10 0 s1.2.2 a0).bind fun v2 => (rdI s1.2.2 v2 (1 : Int32)).bind fun v3 => if v3 ≤ s1.2.1 then some (.inr (s1.1, s1.2.2)) else jn (fun (u5 : Int32) (M6 : AM) => some (.inl (u5, (s1.2.1 + (1 : Int32)), M6))) fun j7 => if s1.2.1 = a1 then j7 s1.1 s1.2.2 else (rcv 10 s1.2.2 a0 (F_X10_everybody n s1.2.2 a0)).bind fun v9 => (rcv 10 s1.2.2 a0 (F_X10_allows n s1.2.2 a0 a1 s1.2.1 a2 (0 : Int32) v9)).bind fun v10 => if v10.1 = 0 then j7 s1.1 v10.2 else j7 (s1.1 ||| ((1 : Int32) <<< (s1.2.1 &&& 31))) v10.2) n ((0 : Int32), (0 : Int32), M)).bind fun (e1 : Int32 × AM) => some (e1.1, e1.2)
set_option maxRecDepth 100000 in
set_option maxHeartbeats 4000000 in
theorem C_X10_othersToSayTo {n : Nat} {M : AM} {a0 : Nat} {a1 : Int32} {a2 : Int32} {o : (Int32 × AM)} (h : F_X10_othersToSayTo n M a0 a1 a2 = some o) : Cn yX10_othersToSayTo cX10_othersToSayTo 5 (some .int) 4 [.ref a0, .int a1, .int a2] M (some (.int o.1)) o.2 := by
  unfold F_X10_othersToSayTo at h
  refine Cn.of rfl (Nat.le_of_ble_eq_true rfl) ?_
  show G yX10_othersToSayTo cX10_othersToSayTo 5 (some .int) 4 0 [(0, .ref a0), (1, .int a1), (2, .int a2)] [] M (some (.int o.1)) o.2
  refine G.iconst (0 : Int32) dX10_othersToSayTo_0 ki_0 ?_
  refine G.istore_n (lv' := [(3, .int (0 : Int32)), (0, .ref a0), (1, .int a1), (2, .int a2)]) dX10_othersToSayTo_1 rfl (Nat.le_of_ble_eq_true rfl) rfl ?_
  refine G.iconst (0 : Int32) dX10_othersToSayTo_2 ki_0 ?_
  refine G.istore (lv' := [(4, .int (0 : Int32)), (3, .int (0 : Int32)), (0, .ref a0), (1, .int a1), (2, .int a2)]) dX10_othersToSayTo_3 (Nat.le_of_ble_eq_true rfl) rfl ?_
  refine G.sub (lv' := [(0, .ref a0), (1, .int a1), (2, .int a2), (3, .int (0 : Int32)), (4, .int (0 : Int32))]) [2, 3, 4, 1, 0] rfl ?_
  refine loopE (fun (s1 : Int32 × Int32 × AM) => G yX10_othersToSayTo cX10_othersToSayTo 5 (some .int) 4 5 [(0, .ref a0), (1, .int a1), (2, .int a2), (3, .int s1.1), (4, .int s1.2.1)] [] s1.2.2 (some (.int o.1)) o.2) (fun (e1 : Int32 × AM) => G yX10_othersToSayTo cX10_othersToSayTo 5 (some .int) 4 51 [(3, .int e1.1)] [] e1.2 (some (.int o.1)) o.2) h ?_ ?_
  · intro e1 h
    show G yX10_othersToSayTo cX10_othersToSayTo 5 (some .int) 4 51 [(3, .int e1.1)] [] e1.2 (some (.int o.1)) o.2
    refine G.iload_n dX10_othersToSayTo_51 rfl rfl ?_
    exact G.iretW dX10_othersToSayTo_52 rfl (rfl) h
  · intro s1 x1 h K1
    show G yX10_othersToSayTo cX10_othersToSayTo 5 (some .int) 4 5 [(0, .ref a0), (1, .int a1), (2, .int a2), (3, .int s1.1), (4, .int s1.2.1)] [] s1.2.2 (some (.int o.1)) o.2
    refine G.iload dX10_othersToSayTo_5 rfl ?_
    refine G.aload_n dX10_othersToSayTo_7 rfl rfl ?_
    refine G.getR dX10_othersToSayTo_8 fkX10_9 fr10_0 h (fun v2 h => ?_)
    refine G.iconst (1 : Int32) dX10_othersToSayTo_11 ki_1 ?_
    refine G.iald dX10_othersToSayTo_12 h (fun v3 h => ?_)
    refine G.icmp_ge 51 dX10_othersToSayTo_13 (by decide) h (fun c4 h => ?_) (fun c4 h => ?_)
    · refine G.sub (lv' := [(3, .int s1.1)]) [3] rfl ?_
      have h := leafR' h K1
      exact h
    · refine G.iload dX10_othersToSayTo_16 rfl ?_
      refine G.iload_n dX10_othersToSayTo_18 rfl rfl ?_
      refine jn_elim (fun j7 => ∀ (u5 : Int32) (M6 : AM), j7 u5 M6 = some x1 → G yX10_othersToSayTo cX10_othersToSayTo 5 (some .int) 4 45 [(0, .ref a0), (1, .int a1), (2, .int a2), (3, .int u5), (4, .int s1.2.1)] [] M6 (some (.int o.1)) o.2) h ?_ ?_
      · intro u5 M6 h
        refine G.iinc s1.2.1 (w := (s1.2.1 + (1 : Int32))) (lv' := [(4, .int (s1.2.1 + (1 : Int32))), (0, .ref a0), (1, .int a1), (2, .int a2), (3, .int u5)]) dX10_othersToSayTo_45 rfl rfl (Nat.le_of_ble_eq_true rfl) rfl ?_
        refine G.goto 5 dX10_othersToSayTo_48 (by decide) ?_
        refine G.sub (lv' := [(0, .ref a0), (1, .int a1), (2, .int a2), (3, .int u5), (4, .int (s1.2.1 + (1 : Int32)))]) [1, 2, 3, 4, 0] rfl ?_
        have h := leafL' h K1
        exact h
      · intro j7 Jj7 h
        refine G.icmp_eq 45 dX10_othersToSayTo_19 (by decide) h (fun c8 h => ?_) (fun c8 h => ?_)
        · refine G.sub (lv' := [(0, .ref a0), (1, .int a1), (2, .int a2), (3, .int s1.1), (4, .int s1.2.1)]) [0, 1, 2, 3, 4] rfl ?_
          exact Jj7 _ _ h
        · refine G.aload_n dX10_othersToSayTo_22 rfl rfl ?_
          refine G.iload_n dX10_othersToSayTo_23 rfl rfl ?_
          refine G.iload dX10_othersToSayTo_24 rfl ?_
          refine G.iload_n dX10_othersToSayTo_26 rfl rfl ?_
          refine G.iconst (0 : Int32) dX10_othersToSayTo_27 ki_0 ?_
          refine G.aload_n dX10_othersToSayTo_28 rfl rfl ?_
          refine G.callVi (ci := 10) [] [.int (0 : Int32), .int a2, .int s1.2.1, .int a1, .ref a0] dX10_othersToSayTo_29 lkX10_89 okX10_everybody rfl (fun v hv => C_X10_everybody hv) (Nat.le_of_ble_eq_true rfl) rfl rfl (Nat.le_of_ble_eq_true rfl) h (fun v9 h => ?_)
          refine G.callVi (ci := 10) [.int a1, .int s1.2.1, .int a2, .int (0 : Int32), .int v9] [] dX10_othersToSayTo_32 lkX10_93 okX10_allows rfl (fun v hv => C_X10_allows hv) (Nat.le_of_ble_eq_true rfl) rfl rfl (Nat.le_of_ble_eq_true rfl) h (fun v10 h => ?_)
          refine G.if_eq 45 dX10_othersToSayTo_35 (by decide) h (fun c11 h => ?_) (fun c11 h => ?_)
          · refine G.sub (lv' := [(0, .ref a0), (1, .int a1), (2, .int a2), (3, .int s1.1), (4, .int s1.2.1)]) [0, 1, 2, 3, 4] rfl ?_
            exact Jj7 _ _ h
          · refine G.iload_n dX10_othersToSayTo_38 rfl rfl ?_
            refine G.iconst (1 : Int32) dX10_othersToSayTo_39 ki_1 ?_
            refine G.iload dX10_othersToSayTo_40 rfl ?_
            refine G.ishl dX10_othersToSayTo_42 ?_
            refine G.ior dX10_othersToSayTo_43 ?_
            refine G.istore_n (lv' := [(3, .int (s1.1 ||| ((1 : Int32) <<< (s1.2.1 &&& 31)))), (0, .ref a0), (1, .int a1), (2, .int a2), (4, .int s1.2.1)]) dX10_othersToSayTo_44 rfl (Nat.le_of_ble_eq_true rfl) rfl ?_
            refine G.sub (lv' := [(0, .ref a0), (1, .int a1), (2, .int a2), (3, .int (s1.1 ||| ((1 : Int32) <<< (s1.2.1 &&& 31)))), (4, .int s1.2.1)]) [1, 2, 3, 0, 4] rfl ?_
            exact Jj7 _ _ h
-- OnlyUpward$World.settle()V
set_option maxRecDepth 100000 in
set_option maxHeartbeats 4000000 in
def F_X10_settle (n : Nat) (M : AM) (a0 : Nat) : Option AM :=
  (gR 10 14 M a0).bind fun v1 => (F_J7_fill_53178 n M v1 (0 : Int32)).bind fun M3 => (iter (fun (s4 : Int32 × AM) => (gR 10 0 s4.2 a0).bind fun v5 => (rdI s4.2 v5 (1 : Int32)).bind fun v6 => if v6 ≤ s4.1 then some (.inr s4.2) else (gR 10 0 s4.2 a0).bind fun v8 => (rdI s4.2 v8 (0 : Int32)).bind fun v9 => if v9 ≤ 0 then some (.inr s4.2) else (iter (fun (s11 : Int32 × AM) => if (24 : Int32) ≤ s11.1 then some (.inr s11.2) else (gR 10 13 s11.2 a0).bind fun v13 => (rdI s11.2 v13 ((s4.1 * (24 : Int32)) + s11.1)).bind fun v14 => (gR 10 13 s11.2 a0).bind fun v15 => (wrI s11.2 v15 ((s4.1 * (24 : Int32)) + s11.1) (mxI (0 : Int32) v14)).bind fun M16 => (gR 10 14 M16 a0).bind fun v17 => (rdI M16 v17 (((mxI (0 : Int32) v14) * (24 : Int32)) + s11.1)).bind fun v18 => (wrI M16 v17 (((mxI (0 : Int32) v14) * (24 : Int32)) + s11.1) (v18 ||| ((1 : Int32) <<< (s4.1 &&& 31)))).bind fun M19 => some (.inl ((s11.1 + (1 : Int32)), M19))) n ((0 : Int32), s4.2)).bind fun (e11 : AM) => some (.inl ((s4.1 + (1 : Int32)), e11))) n ((0 : Int32), M3)).bind fun (e4 : AM) => (iter (fun (s20 : Int32 × AM) => (gR 10 0 s20.2 a0).bind fun v21 => (rdI s20.2 v21 (0 : Int32)).bind fun v22 => if v22 ≤ s20.1 then some (.inr s20.2) else (iter (fun (s24 : Int32 × AM) => if (24 : Int32) ≤ s24.1 then some (.inr s24.2) else (gR 10 15 s24.2 a0).bind fun v26 => (gR 10 4 s24.2 a0).bind fun v27 => (rdI s24.2 v27 s20.1).bind fun v28 => (rcv 10 s24.2 a0 (F_X10_standersWithin n s24.2 a0 (v28 ||| ((1 : Int32) <<< (s20.1 &&& 31))) s24.1)).bind fun v29 => (wrI s24.2 v26 ((s20.1 * (24 : Int32)) + s24.1) v29).bind fun M30 => some (.inl ((s24.1 + (1 : Int32)), M30))) n ((0 : Int32), s20.2)).bind fun (e24 : AM) => some (.inl ((s20.1 + (1 : Int32)), e24))) n ((0 : Int32), e4)).bind fun (e20 : AM) => (iter (fun (s31 : Int32 × AM) => (gR 10 0 s31.2 a0).bind fun v32 => (rdI s31.2 v32 (1 : Int32)).bind fun v33 => if v33 ≤ s31.1 then some (.inr s31.2) else (iter (fun (s35 : Int32 × AM) => if (24 : Int32) ≤ s35.1 then some (.inr s35.2) else (gR 10 16 s35.2 a0).bind fun v37 => (rcv 10 s35.2 a0 (F_X10_othersToSayTo n s35.2 a0 s31.1 s35.1)).bind fun v38 => (wrI v38.2 v37 ((s31.1 * (24 : Int32)) + s35.1) v38.1).bind fun M39 => some (.inl ((s35.1 + (1 : Int32)), M39))) n ((0 : Int32), s31.2)).bind fun (e35 : AM) => some (.inl ((s31.1 + (1 : Int32)), e35))) n ((0 : Int32), e20)).bind fun (e31 : AM) => some e31
set_option maxRecDepth 100000 in
set_option maxHeartbeats 4000000 in
theorem C_X10_settle {n : Nat} {M : AM} {a0 : Nat} {o : AM} (h : F_X10_settle n M a0 = some o) : Cn yX10_settle cX10_settle 4 none 5 [.ref a0] M none o := by
  unfold F_X10_settle at h
  refine Cn.of rfl (Nat.le_of_ble_eq_true rfl) ?_
  show G yX10_settle cX10_settle 4 none 5 0 [(0, .ref a0)] [] M none o
  refine G.aload_n dX10_settle_0 rfl rfl ?_
  refine G.getR dX10_settle_1 fkX10_58 fr10_14 h (fun v1 h => ?_)
  refine G.iconst (0 : Int32) dX10_settle_4 ki_0 ?_
  refine G.callSv [.ref v1, .int (0 : Int32)] [] dX10_settle_5 lkX10_70 okJ7_fill_53178 (fun v hv => C_J7_fill_53178 hv) (Nat.le_of_ble_eq_true rfl) rfl rfl (Nat.le_of_ble_eq_true rfl) h (fun M3 h => ?_)
  refine G.iconst (0 : Int32) dX10_settle_8 ki_0 ?_
  refine G.istore_n (lv' := [(1, .int (0 : Int32)), (0, .ref a0)]) dX10_settle_9 rfl (Nat.le_of_ble_eq_true rfl) rfl ?_
  refine G.sub (lv' := [(0, .ref a0), (1, .int (0 : Int32))]) [1, 0] rfl ?_
  refine loopE (fun (s4 : Int32 × AM) => G yX10_settle cX10_settle 4 none 5 10 [(0, .ref a0), (1, .int s4.1)] [] s4.2 none o) (fun (e4 : AM) => G yX10_settle cX10_settle 4 none 5 94 [(0, .ref a0)] [] e4 none o) h ?_ ?_
  · intro e4 h
    show G yX10_settle cX10_settle 4 none 5 94 [(0, .ref a0)] [] e4 none o
    refine G.iconst (0 : Int32) dX10_settle_94 ki_0 ?_
    refine G.istore_n (lv' := [(1, .int (0 : Int32)), (0, .ref a0)]) dX10_settle_95 rfl (Nat.le_of_ble_eq_true rfl) rfl ?_
    refine G.sub (lv' := [(0, .ref a0), (1, .int (0 : Int32))]) [1, 0] rfl ?_
    refine loopE (fun (s20 : Int32 × AM) => G yX10_settle cX10_settle 4 none 5 96 [(0, .ref a0), (1, .int s20.1)] [] s20.2 none o) (fun (e20 : AM) => G yX10_settle cX10_settle 4 none 5 152 [(0, .ref a0)] [] e20 none o) h ?_ ?_
    · intro e20 h
      show G yX10_settle cX10_settle 4 none 5 152 [(0, .ref a0)] [] e20 none o
      refine G.iconst (0 : Int32) dX10_settle_152 ki_0 ?_
      refine G.istore_n (lv' := [(1, .int (0 : Int32)), (0, .ref a0)]) dX10_settle_153 rfl (Nat.le_of_ble_eq_true rfl) rfl ?_
      refine G.sub (lv' := [(0, .ref a0), (1, .int (0 : Int32))]) [1, 0] rfl ?_
      refine loopE (fun (s31 : Int32 × AM) => G yX10_settle cX10_settle 4 none 5 154 [(0, .ref a0), (1, .int s31.1)] [] s31.2 none o) (fun (e31 : AM) => G yX10_settle cX10_settle 4 none 5 201 [] [] e31 none o) h ?_ ?_
      · intro e31 h
        show G yX10_settle cX10_settle 4 none 5 201 [] [] e31 none o
        exact G.vretW dX10_settle_201 rfl h
      · intro s31 x31 h K31
        show G yX10_settle cX10_settle 4 none 5 154 [(0, .ref a0), (1, .int s31.1)] [] s31.2 none o
        refine G.iload_n dX10_settle_154 rfl rfl ?_
        refine G.aload_n dX10_settle_155 rfl rfl ?_
        refine G.getR dX10_settle_156 fkX10_9 fr10_0 h (fun v32 h => ?_)
        refine G.iconst (1 : Int32) dX10_settle_159 ki_1 ?_
        refine G.iald dX10_settle_160 h (fun v33 h => ?_)
        refine G.icmp_ge 201 dX10_settle_161 (by decide) h (fun c34 h => ?_) (fun c34 h => ?_)
        · refine G.sub (lv' := []) [] rfl ?_
          have h := leafR' h K31
          exact h
        · refine G.iconst (0 : Int32) dX10_settle_164 ki_0 ?_
          refine G.istore_n (lv' := [(2, .int (0 : Int32)), (0, .ref a0), (1, .int s31.1)]) dX10_settle_165 rfl (Nat.le_of_ble_eq_true rfl) rfl ?_
          refine G.sub (lv' := [(0, .ref a0), (1, .int s31.1), (2, .int (0 : Int32))]) [1, 2, 0] rfl ?_
          refine loopE (fun (s35 : Int32 × AM) => G yX10_settle cX10_settle 4 none 5 166 [(0, .ref a0), (1, .int s31.1), (2, .int s35.1)] [] s35.2 none o) (fun (e35 : AM) => G yX10_settle cX10_settle 4 none 5 195 [(0, .ref a0), (1, .int s31.1)] [] e35 none o) h ?_ ?_
          · intro e35 h
            show G yX10_settle cX10_settle 4 none 5 195 [(0, .ref a0), (1, .int s31.1)] [] e35 none o
            refine G.iinc s31.1 (w := (s31.1 + (1 : Int32))) (lv' := [(1, .int (s31.1 + (1 : Int32))), (0, .ref a0)]) dX10_settle_195 rfl rfl (Nat.le_of_ble_eq_true rfl) rfl ?_
            refine G.goto 154 dX10_settle_198 (by decide) ?_
            refine G.sub (lv' := [(0, .ref a0), (1, .int (s31.1 + (1 : Int32)))]) [1, 0] rfl ?_
            have h := leafL' h K31
            exact h
          · intro s35 x35 h K35
            show G yX10_settle cX10_settle 4 none 5 166 [(0, .ref a0), (1, .int s31.1), (2, .int s35.1)] [] s35.2 none o
            refine G.iload_n dX10_settle_166 rfl rfl ?_
            refine G.bipush (24 : Int32) dX10_settle_167 kb_24 ?_
            refine G.icmp_ge 195 dX10_settle_169 (by decide) h (fun c36 h => ?_) (fun c36 h => ?_)
            · refine G.sub (lv' := [(0, .ref a0), (1, .int s31.1)]) [0, 1] rfl ?_
              have h := leafR' h K35
              exact h
            · refine G.aload_n dX10_settle_172 rfl rfl ?_
              refine G.getR dX10_settle_173 fkX10_64 fr10_16 h (fun v37 h => ?_)
              refine G.iload_n dX10_settle_176 rfl rfl ?_
              refine G.bipush (24 : Int32) dX10_settle_177 kb_24 ?_
              refine G.imul dX10_settle_179 ?_
              refine G.iload_n dX10_settle_180 rfl rfl ?_
              refine G.iadd dX10_settle_181 ?_
              refine G.aload_n dX10_settle_182 rfl rfl ?_
              refine G.iload_n dX10_settle_183 rfl rfl ?_
              refine G.iload_n dX10_settle_184 rfl rfl ?_
              refine G.callVi (ci := 10) [.int s31.1, .int s35.1] [.int ((s31.1 * (24 : Int32)) + s35.1), .ref v37] dX10_settle_185 lkX10_86 okX10_othersToSayTo rfl (fun v hv => C_X10_othersToSayTo hv) (Nat.le_of_ble_eq_true rfl) rfl rfl (Nat.le_of_ble_eq_true rfl) h (fun v38 h => ?_)
              refine G.iast dX10_settle_188 h (fun M39 h => ?_)
              refine G.iinc s35.1 (w := (s35.1 + (1 : Int32))) (lv' := [(2, .int (s35.1 + (1 : Int32))), (0, .ref a0), (1, .int s31.1)]) dX10_settle_189 rfl rfl (Nat.le_of_ble_eq_true rfl) rfl ?_
              refine G.goto 166 dX10_settle_192 (by decide) ?_
              refine G.sub (lv' := [(0, .ref a0), (1, .int s31.1), (2, .int (s35.1 + (1 : Int32)))]) [1, 2, 0] rfl ?_
              have h := leafL' h K35
              exact h
    · intro s20 x20 h K20
      show G yX10_settle cX10_settle 4 none 5 96 [(0, .ref a0), (1, .int s20.1)] [] s20.2 none o
      refine G.iload_n dX10_settle_96 rfl rfl ?_
      refine G.aload_n dX10_settle_97 rfl rfl ?_
      refine G.getR dX10_settle_98 fkX10_9 fr10_0 h (fun v21 h => ?_)
      refine G.iconst (0 : Int32) dX10_settle_101 ki_0 ?_
      refine G.iald dX10_settle_102 h (fun v22 h => ?_)
      refine G.icmp_ge 152 dX10_settle_103 (by decide) h (fun c23 h => ?_) (fun c23 h => ?_)
      · refine G.sub (lv' := [(0, .ref a0)]) [0] rfl ?_
        have h := leafR' h K20
        exact h
      · refine G.iconst (0 : Int32) dX10_settle_106 ki_0 ?_
        refine G.istore_n (lv' := [(2, .int (0 : Int32)), (0, .ref a0), (1, .int s20.1)]) dX10_settle_107 rfl (Nat.le_of_ble_eq_true rfl) rfl ?_
        refine G.sub (lv' := [(0, .ref a0), (1, .int s20.1), (2, .int (0 : Int32))]) [1, 2, 0] rfl ?_
        refine loopE (fun (s24 : Int32 × AM) => G yX10_settle cX10_settle 4 none 5 108 [(0, .ref a0), (1, .int s20.1), (2, .int s24.1)] [] s24.2 none o) (fun (e24 : AM) => G yX10_settle cX10_settle 4 none 5 146 [(0, .ref a0), (1, .int s20.1)] [] e24 none o) h ?_ ?_
        · intro e24 h
          show G yX10_settle cX10_settle 4 none 5 146 [(0, .ref a0), (1, .int s20.1)] [] e24 none o
          refine G.iinc s20.1 (w := (s20.1 + (1 : Int32))) (lv' := [(1, .int (s20.1 + (1 : Int32))), (0, .ref a0)]) dX10_settle_146 rfl rfl (Nat.le_of_ble_eq_true rfl) rfl ?_
          refine G.goto 96 dX10_settle_149 (by decide) ?_
          refine G.sub (lv' := [(0, .ref a0), (1, .int (s20.1 + (1 : Int32)))]) [1, 0] rfl ?_
          have h := leafL' h K20
          exact h
        · intro s24 x24 h K24
          show G yX10_settle cX10_settle 4 none 5 108 [(0, .ref a0), (1, .int s20.1), (2, .int s24.1)] [] s24.2 none o
          refine G.iload_n dX10_settle_108 rfl rfl ?_
          refine G.bipush (24 : Int32) dX10_settle_109 kb_24 ?_
          refine G.icmp_ge 146 dX10_settle_111 (by decide) h (fun c25 h => ?_) (fun c25 h => ?_)
          · refine G.sub (lv' := [(0, .ref a0), (1, .int s20.1)]) [0, 1] rfl ?_
            have h := leafR' h K24
            exact h
          · refine G.aload_n dX10_settle_114 rfl rfl ?_
            refine G.getR dX10_settle_115 fkX10_61 fr10_15 h (fun v26 h => ?_)
            refine G.iload_n dX10_settle_118 rfl rfl ?_
            refine G.bipush (24 : Int32) dX10_settle_119 kb_24 ?_
            refine G.imul dX10_settle_121 ?_
            refine G.iload_n dX10_settle_122 rfl rfl ?_
            refine G.iadd dX10_settle_123 ?_
            refine G.aload_n dX10_settle_124 rfl rfl ?_
            refine G.aload_n dX10_settle_125 rfl rfl ?_
            refine G.getR dX10_settle_126 fkX10_24 fr10_4 h (fun v27 h => ?_)
            refine G.iload_n dX10_settle_129 rfl rfl ?_
            refine G.iald dX10_settle_130 h (fun v28 h => ?_)
            refine G.iconst (1 : Int32) dX10_settle_131 ki_1 ?_
            refine G.iload_n dX10_settle_132 rfl rfl ?_
            refine G.ishl dX10_settle_133 ?_
            refine G.ior dX10_settle_134 ?_
            refine G.iload_n dX10_settle_135 rfl rfl ?_
            refine G.callVi (ci := 10) [.int (v28 ||| ((1 : Int32) <<< (s20.1 &&& 31))), .int s24.1] [.int ((s20.1 * (24 : Int32)) + s24.1), .ref v26] dX10_settle_136 lkX10_83 okX10_standersWithin rfl (fun v hv => C_X10_standersWithin hv) (Nat.le_of_ble_eq_true rfl) rfl rfl (Nat.le_of_ble_eq_true rfl) h (fun v29 h => ?_)
            refine G.iast dX10_settle_139 h (fun M30 h => ?_)
            refine G.iinc s24.1 (w := (s24.1 + (1 : Int32))) (lv' := [(2, .int (s24.1 + (1 : Int32))), (0, .ref a0), (1, .int s20.1)]) dX10_settle_140 rfl rfl (Nat.le_of_ble_eq_true rfl) rfl ?_
            refine G.goto 108 dX10_settle_143 (by decide) ?_
            refine G.sub (lv' := [(0, .ref a0), (1, .int s20.1), (2, .int (s24.1 + (1 : Int32)))]) [1, 2, 0] rfl ?_
            have h := leafL' h K24
            exact h
  · intro s4 x4 h K4
    show G yX10_settle cX10_settle 4 none 5 10 [(0, .ref a0), (1, .int s4.1)] [] s4.2 none o
    refine G.iload_n dX10_settle_10 rfl rfl ?_
    refine G.aload_n dX10_settle_11 rfl rfl ?_
    refine G.getR dX10_settle_12 fkX10_9 fr10_0 h (fun v5 h => ?_)
    refine G.iconst (1 : Int32) dX10_settle_15 ki_1 ?_
    refine G.iald dX10_settle_16 h (fun v6 h => ?_)
    refine G.icmp_ge 94 dX10_settle_17 (by decide) h (fun c7 h => ?_) (fun c7 h => ?_)
    · refine G.sub (lv' := [(0, .ref a0)]) [0] rfl ?_
      have h := leafR' h K4
      exact h
    · refine G.aload_n dX10_settle_20 rfl rfl ?_
      refine G.getR dX10_settle_21 fkX10_9 fr10_0 h (fun v8 h => ?_)
      refine G.iconst (0 : Int32) dX10_settle_24 ki_0 ?_
      refine G.iald dX10_settle_25 h (fun v9 h => ?_)
      refine G.if_le 94 dX10_settle_26 (by decide) h (fun c10 h => ?_) (fun c10 h => ?_)
      · refine G.sub (lv' := [(0, .ref a0)]) [0] rfl ?_
        have h := leafR' h K4
        exact h
      · refine G.iconst (0 : Int32) dX10_settle_29 ki_0 ?_
        refine G.istore_n (lv' := [(2, .int (0 : Int32)), (0, .ref a0), (1, .int s4.1)]) dX10_settle_30 rfl (Nat.le_of_ble_eq_true rfl) rfl ?_
        refine G.sub (lv' := [(0, .ref a0), (1, .int s4.1), (2, .int (0 : Int32))]) [1, 2, 0] rfl ?_
        refine loopE (fun (s11 : Int32 × AM) => G yX10_settle cX10_settle 4 none 5 31 [(0, .ref a0), (1, .int s4.1), (2, .int s11.1)] [] s11.2 none o) (fun (e11 : AM) => G yX10_settle cX10_settle 4 none 5 88 [(0, .ref a0), (1, .int s4.1)] [] e11 none o) h ?_ ?_
        · intro e11 h
          show G yX10_settle cX10_settle 4 none 5 88 [(0, .ref a0), (1, .int s4.1)] [] e11 none o
          refine G.iinc s4.1 (w := (s4.1 + (1 : Int32))) (lv' := [(1, .int (s4.1 + (1 : Int32))), (0, .ref a0)]) dX10_settle_88 rfl rfl (Nat.le_of_ble_eq_true rfl) rfl ?_
          refine G.goto 10 dX10_settle_91 (by decide) ?_
          refine G.sub (lv' := [(0, .ref a0), (1, .int (s4.1 + (1 : Int32)))]) [1, 0] rfl ?_
          have h := leafL' h K4
          exact h
        · intro s11 x11 h K11
          show G yX10_settle cX10_settle 4 none 5 31 [(0, .ref a0), (1, .int s4.1), (2, .int s11.1)] [] s11.2 none o
          refine G.iload_n dX10_settle_31 rfl rfl ?_
          refine G.bipush (24 : Int32) dX10_settle_32 kb_24 ?_
          refine G.icmp_ge 88 dX10_settle_34 (by decide) h (fun c12 h => ?_) (fun c12 h => ?_)
          · refine G.sub (lv' := [(0, .ref a0), (1, .int s4.1)]) [0, 1] rfl ?_
            have h := leafR' h K11
            exact h
          · refine G.iconst (0 : Int32) dX10_settle_37 ki_0 ?_
            refine G.aload_n dX10_settle_38 rfl rfl ?_
            refine G.getR dX10_settle_39 fkX10_55 fr10_13 h (fun v13 h => ?_)
            refine G.iload_n dX10_settle_42 rfl rfl ?_
            refine G.bipush (24 : Int32) dX10_settle_43 kb_24 ?_
            refine G.imul dX10_settle_45 ?_
            refine G.iload_n dX10_settle_46 rfl rfl ?_
            refine G.iadd dX10_settle_47 ?_
            refine G.iald dX10_settle_48 h (fun v14 h => ?_)
            refine G.mmax dX10_settle_49 lmX10_77 mm_max_1 mm_2 mm_max_3 (Nat.le_of_ble_eq_true rfl) (Nat.le_of_ble_eq_true rfl) ?_
            refine G.istore_n (lv' := [(3, .int (mxI (0 : Int32) v14)), (0, .ref a0), (1, .int s4.1), (2, .int s11.1)]) dX10_settle_52 rfl (Nat.le_of_ble_eq_true rfl) rfl ?_
            refine G.aload_n dX10_settle_53 rfl rfl ?_
            refine G.getR dX10_settle_54 fkX10_55 fr10_13 h (fun v15 h => ?_)
            refine G.iload_n dX10_settle_57 rfl rfl ?_
            refine G.bipush (24 : Int32) dX10_settle_58 kb_24 ?_
            refine G.imul dX10_settle_60 ?_
            refine G.iload_n dX10_settle_61 rfl rfl ?_
            refine G.iadd dX10_settle_62 ?_
            refine G.iload_n dX10_settle_63 rfl rfl ?_
            refine G.iast dX10_settle_64 h (fun M16 h => ?_)
            refine G.aload_n dX10_settle_65 rfl rfl ?_
            refine G.getR dX10_settle_66 fkX10_58 fr10_14 h (fun v17 h => ?_)
            refine G.iload_n dX10_settle_69 rfl rfl ?_
            refine G.bipush (24 : Int32) dX10_settle_70 kb_24 ?_
            refine G.imul dX10_settle_72 ?_
            refine G.iload_n dX10_settle_73 rfl rfl ?_
            refine G.iadd dX10_settle_74 ?_
            refine G.dup2 dX10_settle_75 rfl rfl ?_
            refine G.iald dX10_settle_76 h (fun v18 h => ?_)
            refine G.iconst (1 : Int32) dX10_settle_77 ki_1 ?_
            refine G.iload_n dX10_settle_78 rfl rfl ?_
            refine G.ishl dX10_settle_79 ?_
            refine G.ior dX10_settle_80 ?_
            refine G.iast dX10_settle_81 h (fun M19 h => ?_)
            refine G.iinc s11.1 (w := (s11.1 + (1 : Int32))) (lv' := [(2, .int (s11.1 + (1 : Int32))), (3, .int (mxI (0 : Int32) v14)), (0, .ref a0), (1, .int s4.1)]) dX10_settle_82 rfl rfl (Nat.le_of_ble_eq_true rfl) rfl ?_
            refine G.goto 31 dX10_settle_85 (by decide) ?_
            refine G.sub (lv' := [(0, .ref a0), (1, .int s4.1), (2, .int (s11.1 + (1 : Int32)))]) [2, 3, 0] rfl ?_
            have h := leafL' h K11
            exact h
-- OnlyUpward$Cheapest.forget()V
set_option maxRecDepth 100000 in
set_option maxHeartbeats 4000000 in
def F_X0_forget (n : Nat) (M : AM) (a0 : Nat) : Option AM :=
  (pI 0 0 M a0 (-1 : Int32)).bind fun M1 => some M1
set_option maxRecDepth 100000 in
set_option maxHeartbeats 4000000 in
theorem C_X0_forget {n : Nat} {M : AM} {a0 : Nat} {o : AM} (h : F_X0_forget n M a0 = some o) : Cn yX0_forget cX0_forget 1 none 0 [.ref a0] M none o := by
  unfold F_X0_forget at h
  refine Cn.of rfl (Nat.le_of_ble_eq_true rfl) ?_
  show G yX0_forget cX0_forget 1 none 0 0 [(0, .ref a0)] [] M none o
  refine G.aload_n dX0_forget_0 rfl rfl ?_
  refine G.iconst (-1 : Int32) dX0_forget_1 ki_m1 ?_
  refine G.putI dX0_forget_2 fkX0_9 nf0_0 ft0_0 h (fun M1 h => ?_)
  exact G.vretW dX0_forget_5 rfl h
-- OnlyUpward$Rule.forget()V
set_option maxRecDepth 100000 in
set_option maxHeartbeats 4000000 in
def F_X6_forget (n : Nat) (M : AM) (a0 : Nat) : Option AM :=
  (pZ 6 3 M a0 (0 : Int32)).bind fun M1 => some M1
set_option maxRecDepth 100000 in
set_option maxHeartbeats 4000000 in
theorem C_X6_forget {n : Nat} {M : AM} {a0 : Nat} {o : AM} (h : F_X6_forget n M a0 = some o) : Cn yX6_forget cX6_forget 1 none 0 [.ref a0] M none o := by
  unfold F_X6_forget at h
  refine Cn.of rfl (Nat.le_of_ble_eq_true rfl) ?_
  show G yX6_forget cX6_forget 1 none 0 0 [(0, .ref a0)] [] M none o
  refine G.aload_n dX6_forget_0 rfl rfl ?_
  refine G.iconst (0 : Int32) dX6_forget_1 ki_0 ?_
  refine G.putZ dX6_forget_2 fkX6_25 nf6_3 ft6_3 h (fun M1 h => ?_)
  exact G.vretW dX6_forget_5 rfl h
-- OnlyUpward.settle()V
set_option maxRecDepth 100000 in
set_option maxHeartbeats 4000000 in
def F_X11_settle (n : Nat) (M : AM) (a0 : Nat) : Option AM :=
  (gR 11 6 M a0).bind fun v1 => (gR 11 7 M a0).bind fun v2 => (pR 11 6 M a0 v2).bind fun M3 => (pR 11 7 M3 a0 v1).bind fun M4 => (gR 11 6 M4 a0).bind fun v5 => (rcv 10 M4 v5 (F_X10_settle n M4 v5)).bind fun M7 => (gR 11 8 M7 a0).bind fun v8 => (rcv 5 M7 v8 (F_X5_clear n M7 v8)).bind fun M10 => (pZ 11 10 M10 a0 (0 : Int32)).bind fun M11 => (gR 11 13 M11 a0).bind fun v12 => (rcv 0 M11 v12 (F_X0_forget n M11 v12)).bind fun M14 => (gR 11 14 M14 a0).bind fun v15 => (rcv 6 M14 v15 (F_X6_forget n M14 v15)).bind fun M17 => some M17
set_option maxRecDepth 100000 in
set_option maxHeartbeats 4000000 in
theorem C_X11_settle {n : Nat} {M : AM} {a0 : Nat} {o : AM} (h : F_X11_settle n M a0 = some o) : Cn yX11_settle cX11_settle 2 none 6 [.ref a0] M none o := by
  unfold F_X11_settle at h
  refine Cn.of rfl (Nat.le_of_ble_eq_true rfl) ?_
  show G yX11_settle cX11_settle 2 none 6 0 [(0, .ref a0)] [] M none o
  refine G.aload_n dX11_settle_0 rfl rfl ?_
  refine G.getR dX11_settle_1 fkX11_46 fr11_6 h (fun v1 h => ?_)
  refine G.astore_n (lv' := [(1, .ref v1), (0, .ref a0)]) dX11_settle_4 rfl (Nat.le_of_ble_eq_true rfl) rfl ?_
  refine G.aload_n dX11_settle_5 rfl rfl ?_
  refine G.aload_n dX11_settle_6 rfl rfl ?_
  refine G.getR dX11_settle_7 fkX11_50 fr11_7 h (fun v2 h => ?_)
  refine G.putR dX11_settle_10 fkX11_46 nf11_6 fr11_6 h (fun M3 h => ?_)
  refine G.aload_n dX11_settle_13 rfl rfl ?_
  refine G.aload_n dX11_settle_14 rfl rfl ?_
  refine G.putR dX11_settle_15 fkX11_50 nf11_7 fr11_7 h (fun M4 h => ?_)
  refine G.aload_n dX11_settle_18 rfl rfl ?_
  refine G.getR dX11_settle_19 fkX11_46 fr11_6 h (fun v5 h => ?_)
  refine G.callVv (ci := 10) [] [] dX11_settle_22 lkX11_131 okX10_settle rfl (fun v hv => C_X10_settle hv) (Nat.le_of_ble_eq_true rfl) rfl rfl (Nat.le_of_ble_eq_true rfl) h (fun M7 h => ?_)
  refine G.aload_n dX11_settle_25 rfl rfl ?_
  refine G.getR dX11_settle_26 fkX11_56 fr11_8 h (fun v8 h => ?_)
  refine G.callVv (ci := 5) [] [] dX11_settle_29 lkX11_132 okX5_clear rfl (fun v hv => C_X5_clear hv) (Nat.le_of_ble_eq_true rfl) rfl rfl (Nat.le_of_ble_eq_true rfl) h (fun M10 h => ?_)
  refine G.aload_n dX11_settle_32 rfl rfl ?_
  refine G.iconst (0 : Int32) dX11_settle_33 ki_0 ?_
  refine G.putZ dX11_settle_34 fkX11_67 nf11_10 ft11_10 h (fun M11 h => ?_)
  refine G.aload_n dX11_settle_37 rfl rfl ?_
  refine G.getR dX11_settle_38 fkX11_84 fr11_13 h (fun v12 h => ?_)
  refine G.callVv (ci := 0) [] [] dX11_settle_41 lkX11_133 okX0_forget rfl (fun v hv => C_X0_forget hv) (Nat.le_of_ble_eq_true rfl) rfl rfl (Nat.le_of_ble_eq_true rfl) h (fun M14 h => ?_)
  refine G.aload_n dX11_settle_44 rfl rfl ?_
  refine G.getR dX11_settle_45 fkX11_91 fr11_14 h (fun v15 h => ?_)
  refine G.callVv (ci := 6) [] [] dX11_settle_48 lkX11_136 okX6_forget rfl (fun v hv => C_X6_forget hv) (Nat.le_of_ble_eq_true rfl) rfl rfl (Nat.le_of_ble_eq_true rfl) h (fun M17 h => ?_)
  exact G.vretW dX11_settle_51 rfl h
-- OnlyUpward.read()I
set_option maxRecDepth 100000 in
set_option maxHeartbeats 4000000 in
def F_X11_read (n : Nat) (M : AM) (a0 : Nat) : Option (Int32 × AM) :=
  (gR 11 3 M a0).bind fun v1 => (gR 11 0 M a0).bind fun v2 => (gI 11 1 M a0).bind fun v3 => (rcv 9 M v1 (F_X9_scan n M v1 v2 v3)).bind fun M5 => (pI 11 1 M5 a0 (0 : Int32)).bind fun M6 => (gR 11 7 M6 a0).bind fun v7 => (rcv 10 M6 v7 (F_X10_clear n M6 v7)).bind fun M9 => (gR 11 4 M9 a0).bind fun v10 => (gR 11 7 M9 a0).bind fun v11 => (gR 10 12 M9 v11).bind fun v12 => (rcv 2 M9 v10 (F_X2_check n M9 v10 v12)).bind fun v13 => (gR 11 4 v13.2 a0).bind fun v14 => (gI 2 4 v13.2 v14).bind fun v15 => jn (fun (u16 : Int32) (u17 : Int32) (M18 : AM) => jn (fun (u19 : Int32) => (pI 11 2 M18 a0 u19).bind fun M20 => if u16 = 0 then (rcv 11 M20 a0 (F_X11_settle n M20 a0)).bind fun M23 => some (u16, M23) else some (u16, M20)) fun j24 => if u16 = 0 then j24 (-1 : Int32) else (gR 11 3 M18 a0).bind fun v26 => (rcv 9 M18 v26 (F_X9_placeAt n M18 v26 u17)).bind fun v27 => j24 v27) fun j28 => if v13.1 = 0 then (gR 11 5 v13.2 a0).bind fun v30 => (gR 11 7 v13.2 a0).bind fun v31 => (rcv 8 v13.2 v30 (F_X8_tellAll n v13.2 v30 v31)).bind fun v32 => (gR 11 5 v32.2 a0).bind fun v33 => (gI 8 6 v32.2 v33).bind fun v34 => j28 v32.1 v34 v32.2 else j28 v13.1 v15 v13.2
set_option maxRecDepth 100000 in
set_option maxHeartbeats 4000000 in
theorem C_X11_read {n : Nat} {M : AM} {a0 : Nat} {o : (Int32 × AM)} (h : F_X11_read n M a0 = some o) : Cn yX11_read cX11_read 3 (some .int) 7 [.ref a0] M (some (.int o.1)) o.2 := by
  unfold F_X11_read at h
  refine Cn.of rfl (Nat.le_of_ble_eq_true rfl) ?_
  show G yX11_read cX11_read 3 (some .int) 7 0 [(0, .ref a0)] [] M (some (.int o.1)) o.2
  refine G.aload_n dX11_read_0 rfl rfl ?_
  refine G.getR dX11_read_1 fkX11_23 fr11_3 h (fun v1 h => ?_)
  refine G.aload_n dX11_read_4 rfl rfl ?_
  refine G.getR dX11_read_5 fkX11_9 fr11_0 h (fun v2 h => ?_)
  refine G.aload_n dX11_read_8 rfl rfl ?_
  refine G.getI dX11_read_9 fkX11_13 fr11_1 h (fun v3 h => ?_)
  refine G.callVv (ci := 9) [.ref v2, .int v3] [] dX11_read_12 lkX11_99 okX9_scan rfl (fun v hv => C_X9_scan hv) (Nat.le_of_ble_eq_true rfl) rfl rfl (Nat.le_of_ble_eq_true rfl) h (fun M5 h => ?_)
  refine G.aload_n dX11_read_15 rfl rfl ?_
  refine G.iconst (0 : Int32) dX11_read_16 ki_0 ?_
  refine G.putI dX11_read_17 fkX11_13 nf11_1 ft11_1 h (fun M6 h => ?_)
  refine G.aload_n dX11_read_20 rfl rfl ?_
  refine G.getR dX11_read_21 fkX11_50 fr11_7 h (fun v7 h => ?_)
  refine G.callVv (ci := 10) [] [] dX11_read_24 lkX11_103 okX10_clear rfl (fun v hv => C_X10_clear hv) (Nat.le_of_ble_eq_true rfl) rfl rfl (Nat.le_of_ble_eq_true rfl) h (fun M9 h => ?_)
  refine G.aload_n dX11_read_27 rfl rfl ?_
  refine G.getR dX11_read_28 fkX11_32 fr11_4 h (fun v10 h => ?_)
  refine G.aload_n dX11_read_31 rfl rfl ?_
  refine G.getR dX11_read_32 fkX11_50 fr11_7 h (fun v11 h => ?_)
  refine G.getR dX11_read_35 fkX11_106 fr10_12 h (fun v12 h => ?_)
  refine G.callVi (ci := 2) [.ref v12] [] dX11_read_38 lkX11_110 okX2_check rfl (fun v hv => C_X2_check hv) (Nat.le_of_ble_eq_true rfl) rfl rfl (Nat.le_of_ble_eq_true rfl) h (fun v13 h => ?_)
  refine G.istore_n (lv' := [(1, .int v13.1), (0, .ref a0)]) dX11_read_41 rfl (Nat.le_of_ble_eq_true rfl) rfl ?_
  refine G.aload_n dX11_read_42 rfl rfl ?_
  refine G.getR dX11_read_43 fkX11_32 fr11_4 h (fun v14 h => ?_)
  refine G.getI dX11_read_46 fkX11_114 fr2_4 h (fun v15 h => ?_)
  refine G.istore_n (lv' := [(2, .int v15), (1, .int v13.1), (0, .ref a0)]) dX11_read_49 rfl (Nat.le_of_ble_eq_true rfl) rfl ?_
  refine G.iload_n dX11_read_50 rfl rfl ?_
  refine jn_elim (fun j28 => ∀ (u16 : Int32) (u17 : Int32) (M18 : AM), j28 u16 u17 M18 = some o → G yX11_read cX11_read 3 (some .int) 7 74 [(0, .ref a0), (1, .int u16), (2, .int u17)] [] M18 (some (.int o.1)) o.2) h ?_ ?_
  · intro u16 u17 M18 h
    refine G.aload_n dX11_read_74 rfl rfl ?_
    refine G.iload_n dX11_read_75 rfl rfl ?_
    refine jn_elim (fun j24 => ∀ (u19 : Int32), j24 u19 = some o → G yX11_read cX11_read 3 (some .int) 7 91 [(0, .ref a0), (1, .int u16)] [.int u19, .ref a0] M18 (some (.int o.1)) o.2) h ?_ ?_
    · intro u19 h
      refine G.putI dX11_read_91 fkX11_17 nf11_2 ft11_2 h (fun M20 h => ?_)
      refine G.iload_n dX11_read_94 rfl rfl ?_
      refine G.if_ne 102 dX11_read_95 (by decide) h (fun c21 h => ?_) (fun c21 h => ?_)
      · refine G.aload_n dX11_read_98 rfl rfl ?_
        refine G.callVv (ci := 11) [] [] dX11_read_99 lkX11_128 okX11_settle rfl (fun v hv => C_X11_settle hv) (Nat.le_of_ble_eq_true rfl) rfl rfl (Nat.le_of_ble_eq_true rfl) h (fun M23 h => ?_)
        refine G.iload_n dX11_read_102 rfl rfl ?_
        exact G.iretW dX11_read_103 rfl (rfl) h
      · refine G.iload_n dX11_read_102 rfl rfl ?_
        exact G.iretW dX11_read_103 rfl (rfl) h
    · intro j24 Jj24 h
      refine G.if_ne 83 dX11_read_76 (by decide) h (fun c25 h => ?_) (fun c25 h => ?_)
      · refine G.iconst (-1 : Int32) dX11_read_79 ki_m1 ?_
        refine G.goto 91 dX11_read_80 (by decide) ?_
        refine G.sub (lv' := [(0, .ref a0), (1, .int u16)]) [0, 1] rfl ?_
        exact Jj24 _ h
      · refine G.aload_n dX11_read_83 rfl rfl ?_
        refine G.getR dX11_read_84 fkX11_23 fr11_3 h (fun v26 h => ?_)
        refine G.iload_n dX11_read_87 rfl rfl ?_
        refine G.callVi (ci := 9) [.int u17] [.ref a0] dX11_read_88 lkX11_124 okX9_placeAt rfl (fun v hv => C_X9_placeAt hv) (Nat.le_of_ble_eq_true rfl) rfl rfl (Nat.le_of_ble_eq_true rfl) h (fun v27 h => ?_)
        refine G.sub (lv' := [(0, .ref a0), (1, .int u16)]) [0, 1] rfl ?_
        exact Jj24 _ h
  · intro j28 Jj28 h
    refine G.if_ne 74 dX11_read_51 (by decide) h (fun c29 h => ?_) (fun c29 h => ?_)
    · refine G.aload_n dX11_read_54 rfl rfl ?_
      refine G.getR dX11_read_55 fkX11_39 fr11_5 h (fun v30 h => ?_)
      refine G.aload_n dX11_read_58 rfl rfl ?_
      refine G.getR dX11_read_59 fkX11_50 fr11_7 h (fun v31 h => ?_)
      refine G.callVi (ci := 8) [.ref v31] [] dX11_read_62 lkX11_117 okX8_tellAll rfl (fun v hv => C_X8_tellAll hv) (Nat.le_of_ble_eq_true rfl) rfl rfl (Nat.le_of_ble_eq_true rfl) h (fun v32 h => ?_)
      refine G.istore_n (lv' := [(1, .int v32.1), (2, .int v15), (0, .ref a0)]) dX11_read_65 rfl (Nat.le_of_ble_eq_true rfl) rfl ?_
      refine G.aload_n dX11_read_66 rfl rfl ?_
      refine G.getR dX11_read_67 fkX11_39 fr11_5 h (fun v33 h => ?_)
      refine G.getI dX11_read_70 fkX11_121 fr8_6 h (fun v34 h => ?_)
      refine G.istore_n (lv' := [(2, .int v34), (1, .int v32.1), (0, .ref a0)]) dX11_read_73 rfl (Nat.le_of_ble_eq_true rfl) rfl ?_
      refine G.sub (lv' := [(0, .ref a0), (1, .int v32.1), (2, .int v34)]) [2, 1, 0] rfl ?_
      exact Jj28 _ _ _ h
    · refine G.sub (lv' := [(0, .ref a0), (1, .int v13.1), (2, .int v15)]) [2, 1, 0] rfl ?_
      exact Jj28 _ _ _ h
-- OnlyUpward.place()I
set_option maxRecDepth 100000 in
set_option maxHeartbeats 4000000 in
def F_X11_place (n : Nat) (M : AM) (a0 : Nat) : Option Int32 :=
  (gI 11 2 M a0).bind fun v1 => some v1
set_option maxRecDepth 100000 in
set_option maxHeartbeats 4000000 in
theorem C_X11_place {n : Nat} {M : AM} {a0 : Nat} {o : Int32} (h : F_X11_place n M a0 = some o) : Cn yX11_place cX11_place 1 (some .int) 0 [.ref a0] M (some (.int o)) M := by
  unfold F_X11_place at h
  refine Cn.of rfl (Nat.le_of_ble_eq_true rfl) ?_
  show G yX11_place cX11_place 1 (some .int) 0 0 [(0, .ref a0)] [] M (some (.int o)) M
  refine G.aload_n dX11_place_0 rfl rfl ?_
  refine G.getI dX11_place_1 fkX11_17 fr11_2 h (fun v1 h => ?_)
  exact G.iret dX11_place_4 rfl (rfl) h
-- OnlyUpward.isOne(II)Z
set_option maxRecDepth 100000 in
set_option maxHeartbeats 4000000 in
def F_X11_isOne (n : Nat) (M : AM) (a0 : Nat) (a1 : Int32) (a2 : Int32) : Option Int32 :=
  if a2 < 0 then some (0 : Int32) else (gR 11 6 M a0).bind fun v2 => (gR 10 0 M v2).bind fun v3 => (rdI M v3 a1).bind fun v4 => if v4 ≤ a2 then some (0 : Int32) else some (1 : Int32)
set_option maxRecDepth 100000 in
set_option maxHeartbeats 4000000 in
theorem C_X11_isOne {n : Nat} {M : AM} {a0 : Nat} {a1 : Int32} {a2 : Int32} {o : Int32} (h : F_X11_isOne n M a0 a1 a2 = some o) : Cn yX11_isOne cX11_isOne 3 (some .boolean) 0 [.ref a0, .int a1, .int a2] M (some (.int o)) M := by
  unfold F_X11_isOne at h
  refine Cn.of rfl (Nat.le_of_ble_eq_true rfl) ?_
  show G yX11_isOne cX11_isOne 3 (some .boolean) 0 0 [(0, .ref a0), (1, .int a1), (2, .int a2)] [] M (some (.int o)) M
  refine G.iload_n dX11_isOne_0 rfl rfl ?_
  refine G.if_lt 21 dX11_isOne_1 (by decide) h (fun c1 h => ?_) (fun c1 h => ?_)
  · refine G.iconst (0 : Int32) dX11_isOne_21 ki_0 ?_
    exact G.iret dX11_isOne_22 rfl (by decide) h
  · refine G.iload_n dX11_isOne_4 rfl rfl ?_
    refine G.aload_n dX11_isOne_5 rfl rfl ?_
    refine G.getR dX11_isOne_6 fkX11_46 fr11_6 h (fun v2 h => ?_)
    refine G.getR dX11_isOne_9 fkX11_137 fr10_0 h (fun v3 h => ?_)
    refine G.iload_n dX11_isOne_12 rfl rfl ?_
    refine G.iald dX11_isOne_13 h (fun v4 h => ?_)
    refine G.icmp_ge 21 dX11_isOne_14 (by decide) h (fun c5 h => ?_) (fun c5 h => ?_)
    · refine G.iconst (0 : Int32) dX11_isOne_21 ki_0 ?_
      exact G.iret dX11_isOne_22 rfl (by decide) h
    · refine G.iconst (1 : Int32) dX11_isOne_17 ki_1 ?_
      refine G.goto 22 dX11_isOne_18 (by decide) ?_
      exact G.iret dX11_isOne_22 rfl (by decide) h
-- OnlyUpward.isHour(I)Z
set_option maxRecDepth 100000 in
set_option maxHeartbeats 4000000 in
def F_X11_isHour (n : Nat) (M : AM) (a0 : Int32) : Option Int32 :=
  if a0 < 0 then some (0 : Int32) else if (24 : Int32) ≤ a0 then some (0 : Int32) else some (1 : Int32)
set_option maxRecDepth 100000 in
set_option maxHeartbeats 4000000 in
theorem C_X11_isHour {n : Nat} {M : AM} {a0 : Int32} {o : Int32} (h : F_X11_isHour n M a0 = some o) : Cn yX11_isHour cX11_isHour 1 (some .boolean) 0 [.int a0] M (some (.int o)) M := by
  unfold F_X11_isHour at h
  refine Cn.of rfl (Nat.le_of_ble_eq_true rfl) ?_
  show G yX11_isHour cX11_isHour 1 (some .boolean) 0 0 [(0, .int a0)] [] M (some (.int o)) M
  refine G.iload_n dX11_isHour_0 rfl rfl ?_
  refine G.if_lt 14 dX11_isHour_1 (by decide) h (fun c1 h => ?_) (fun c1 h => ?_)
  · refine G.iconst (0 : Int32) dX11_isHour_14 ki_0 ?_
    exact G.iret dX11_isHour_15 rfl (by decide) h
  · refine G.iload_n dX11_isHour_4 rfl rfl ?_
    refine G.bipush (24 : Int32) dX11_isHour_5 kb_24 ?_
    refine G.icmp_ge 14 dX11_isHour_7 (by decide) h (fun c2 h => ?_) (fun c2 h => ?_)
    · refine G.iconst (0 : Int32) dX11_isHour_14 ki_0 ?_
      exact G.iret dX11_isHour_15 rfl (by decide) h
    · refine G.iconst (1 : Int32) dX11_isHour_10 ki_1 ?_
      refine G.goto 15 dX11_isHour_11 (by decide) ?_
      exact G.iret dX11_isHour_15 rfl (by decide) h
-- OnlyUpward.age(II)I
set_option maxRecDepth 100000 in
set_option maxHeartbeats 4000000 in
def F_X11_age (n : Nat) (M : AM) (a0 : Nat) (a1 : Int32) (a2 : Int32) : Option Int32 :=
  (rcv 11 M a0 (F_X11_isOne n M a0 (1 : Int32) a1)).bind fun v1 => if v1 = 0 then some (-1 : Int32) else (F_X11_isHour n M a2).bind fun v3 => if v3 = 0 then some (-1 : Int32) else (gR 11 6 M a0).bind fun v5 => (rcv 10 M v5 (F_X10_ageAt n M v5 a1 a2)).bind fun v6 => some v6
set_option maxRecDepth 100000 in
set_option maxHeartbeats 4000000 in
theorem C_X11_age {n : Nat} {M : AM} {a0 : Nat} {a1 : Int32} {a2 : Int32} {o : Int32} (h : F_X11_age n M a0 a1 a2 = some o) : Cn yX11_age cX11_age 3 (some .int) 1 [.ref a0, .int a1, .int a2] M (some (.int o)) M := by
  unfold F_X11_age at h
  refine Cn.of rfl (Nat.le_of_ble_eq_true rfl) ?_
  show G yX11_age cX11_age 3 (some .int) 1 0 [(0, .ref a0), (1, .int a1), (2, .int a2)] [] M (some (.int o)) M
  refine G.aload_n dX11_age_0 rfl rfl ?_
  refine G.iconst (1 : Int32) dX11_age_1 ki_1 ?_
  refine G.iload_n dX11_age_2 rfl rfl ?_
  refine G.callVi (ci := 11) [.int (1 : Int32), .int a1] [] dX11_age_3 lkX11_141 okX11_isOne rfl (fun v hv => C_X11_isOne hv) (Nat.le_of_ble_eq_true rfl) rfl rfl (Nat.le_of_ble_eq_true rfl) h (fun v1 h => ?_)
  refine G.if_eq 16 dX11_age_6 (by decide) h (fun c2 h => ?_) (fun c2 h => ?_)
  · refine G.iconst (-1 : Int32) dX11_age_16 ki_m1 ?_
    exact G.iret dX11_age_17 rfl (rfl) h
  · refine G.iload_n dX11_age_9 rfl rfl ?_
    refine G.callSi [.int a2] [] dX11_age_10 lkX11_145 okX11_isHour (fun v hv => C_X11_isHour hv) (Nat.le_of_ble_eq_true rfl) rfl rfl (Nat.le_of_ble_eq_true rfl) h (fun v3 h => ?_)
    refine G.if_ne 18 dX11_age_13 (by decide) h (fun c4 h => ?_) (fun c4 h => ?_)
    · refine G.iconst (-1 : Int32) dX11_age_16 ki_m1 ?_
      exact G.iret dX11_age_17 rfl (rfl) h
    · refine G.aload_n dX11_age_18 rfl rfl ?_
      refine G.getR dX11_age_19 fkX11_46 fr11_6 h (fun v5 h => ?_)
      refine G.iload_n dX11_age_22 rfl rfl ?_
      refine G.iload_n dX11_age_23 rfl rfl ?_
      refine G.callVi (ci := 10) [.int a1, .int a2] [] dX11_age_24 lkX11_149 okX10_ageAt rfl (fun v hv => C_X10_ageAt hv) (Nat.le_of_ble_eq_true rfl) rfl rfl (Nat.le_of_ble_eq_true rfl) h (fun v6 h => ?_)
      exact G.iret dX11_age_27 rfl (rfl) h
-- OnlyUpward.where(II)I
set_option maxRecDepth 100000 in
set_option maxHeartbeats 4000000 in
def F_X11_where (n : Nat) (M : AM) (a0 : Nat) (a1 : Int32) (a2 : Int32) : Option Int32 :=
  (rcv 11 M a0 (F_X11_isOne n M a0 (1 : Int32) a1)).bind fun v1 => if v1 = 0 then some (-1 : Int32) else (F_X11_isHour n M a2).bind fun v3 => if v3 = 0 then some (-1 : Int32) else (gR 11 6 M a0).bind fun v5 => (rcv 10 M v5 (F_X10_placeOf n M v5 a1 a2)).bind fun v6 => some v6
set_option maxRecDepth 100000 in
set_option maxHeartbeats 4000000 in
theorem C_X11_where {n : Nat} {M : AM} {a0 : Nat} {a1 : Int32} {a2 : Int32} {o : Int32} (h : F_X11_where n M a0 a1 a2 = some o) : Cn yX11_where cX11_where 3 (some .int) 1 [.ref a0, .int a1, .int a2] M (some (.int o)) M := by
  unfold F_X11_where at h
  refine Cn.of rfl (Nat.le_of_ble_eq_true rfl) ?_
  show G yX11_where cX11_where 3 (some .int) 1 0 [(0, .ref a0), (1, .int a1), (2, .int a2)] [] M (some (.int o)) M
  refine G.aload_n dX11_where_0 rfl rfl ?_
  refine G.iconst (1 : Int32) dX11_where_1 ki_1 ?_
  refine G.iload_n dX11_where_2 rfl rfl ?_
  refine G.callVi (ci := 11) [.int (1 : Int32), .int a1] [] dX11_where_3 lkX11_141 okX11_isOne rfl (fun v hv => C_X11_isOne hv) (Nat.le_of_ble_eq_true rfl) rfl rfl (Nat.le_of_ble_eq_true rfl) h (fun v1 h => ?_)
  refine G.if_eq 16 dX11_where_6 (by decide) h (fun c2 h => ?_) (fun c2 h => ?_)
  · refine G.iconst (-1 : Int32) dX11_where_16 ki_m1 ?_
    exact G.iret dX11_where_17 rfl (rfl) h
  · refine G.iload_n dX11_where_9 rfl rfl ?_
    refine G.callSi [.int a2] [] dX11_where_10 lkX11_145 okX11_isHour (fun v hv => C_X11_isHour hv) (Nat.le_of_ble_eq_true rfl) rfl rfl (Nat.le_of_ble_eq_true rfl) h (fun v3 h => ?_)
    refine G.if_ne 18 dX11_where_13 (by decide) h (fun c4 h => ?_) (fun c4 h => ?_)
    · refine G.iconst (-1 : Int32) dX11_where_16 ki_m1 ?_
      exact G.iret dX11_where_17 rfl (rfl) h
    · refine G.aload_n dX11_where_18 rfl rfl ?_
      refine G.getR dX11_where_19 fkX11_46 fr11_6 h (fun v5 h => ?_)
      refine G.iload_n dX11_where_22 rfl rfl ?_
      refine G.iload_n dX11_where_23 rfl rfl ?_
      refine G.callVi (ci := 10) [.int a1, .int a2] [] dX11_where_24 lkX11_153 okX10_placeOf rfl (fun v hv => C_X10_placeOf hv) (Nat.le_of_ble_eq_true rfl) rfl rfl (Nat.le_of_ble_eq_true rfl) h (fun v6 h => ?_)
      exact G.iret dX11_where_27 rfl (rfl) h
-- OnlyUpward$World.hearers(II)I
set_option maxRecDepth 100000 in
set_option maxHeartbeats 4000000 in
def F_X10_hearers (n : Nat) (M : AM) (a0 : Nat) (a1 : Int32) (a2 : Int32) : Option Int32 :=
  if 0 ≤ a1 then (gR 10 15 M a0).bind fun v2 => (rdI M v2 ((a1 * (24 : Int32)) + a2)).bind fun v3 => some v3 else some (0 : Int32)
set_option maxRecDepth 100000 in
set_option maxHeartbeats 4000000 in
theorem C_X10_hearers {n : Nat} {M : AM} {a0 : Nat} {a1 : Int32} {a2 : Int32} {o : Int32} (h : F_X10_hearers n M a0 a1 a2 = some o) : Cn yX10_hearers cX10_hearers 3 (some .int) 0 [.ref a0, .int a1, .int a2] M (some (.int o)) M := by
  unfold F_X10_hearers at h
  refine Cn.of rfl (Nat.le_of_ble_eq_true rfl) ?_
  show G yX10_hearers cX10_hearers 3 (some .int) 0 0 [(0, .ref a0), (1, .int a1), (2, .int a2)] [] M (some (.int o)) M
  refine G.iload_n dX10_hearers_0 rfl rfl ?_
  refine G.if_ge 8 dX10_hearers_1 (by decide) h (fun c1 h => ?_) (fun c1 h => ?_)
  · refine G.aload_n dX10_hearers_8 rfl rfl ?_
    refine G.getR dX10_hearers_9 fkX10_61 fr10_15 h (fun v2 h => ?_)
    refine G.iload_n dX10_hearers_12 rfl rfl ?_
    refine G.bipush (24 : Int32) dX10_hearers_13 kb_24 ?_
    refine G.imul dX10_hearers_15 ?_
    refine G.iload_n dX10_hearers_16 rfl rfl ?_
    refine G.iadd dX10_hearers_17 ?_
    refine G.iald dX10_hearers_18 h (fun v3 h => ?_)
    exact G.iret dX10_hearers_19 rfl (rfl) h
  · refine G.iconst (0 : Int32) dX10_hearers_4 ki_0 ?_
    refine G.goto 19 dX10_hearers_5 (by decide) ?_
    exact G.iret dX10_hearers_19 rfl (rfl) h
-- OnlyUpward.earshot(II)I
set_option maxRecDepth 100000 in
set_option maxHeartbeats 4000000 in
def F_X11_earshot (n : Nat) (M : AM) (a0 : Nat) (a1 : Int32) (a2 : Int32) : Option Int32 :=
  (rcv 11 M a0 (F_X11_isOne n M a0 (0 : Int32) a1)).bind fun v1 => if v1 = 0 then some (-1 : Int32) else (F_X11_isHour n M a2).bind fun v3 => if v3 = 0 then some (-1 : Int32) else (gR 11 6 M a0).bind fun v5 => (rcv 10 M v5 (F_X10_hearers n M v5 a1 a2)).bind fun v6 => some v6
set_option maxRecDepth 100000 in
set_option maxHeartbeats 4000000 in
theorem C_X11_earshot {n : Nat} {M : AM} {a0 : Nat} {a1 : Int32} {a2 : Int32} {o : Int32} (h : F_X11_earshot n M a0 a1 a2 = some o) : Cn yX11_earshot cX11_earshot 3 (some .int) 1 [.ref a0, .int a1, .int a2] M (some (.int o)) M := by
  unfold F_X11_earshot at h
  refine Cn.of rfl (Nat.le_of_ble_eq_true rfl) ?_
  show G yX11_earshot cX11_earshot 3 (some .int) 1 0 [(0, .ref a0), (1, .int a1), (2, .int a2)] [] M (some (.int o)) M
  refine G.aload_n dX11_earshot_0 rfl rfl ?_
  refine G.iconst (0 : Int32) dX11_earshot_1 ki_0 ?_
  refine G.iload_n dX11_earshot_2 rfl rfl ?_
  refine G.callVi (ci := 11) [.int (0 : Int32), .int a1] [] dX11_earshot_3 lkX11_141 okX11_isOne rfl (fun v hv => C_X11_isOne hv) (Nat.le_of_ble_eq_true rfl) rfl rfl (Nat.le_of_ble_eq_true rfl) h (fun v1 h => ?_)
  refine G.if_eq 16 dX11_earshot_6 (by decide) h (fun c2 h => ?_) (fun c2 h => ?_)
  · refine G.iconst (-1 : Int32) dX11_earshot_16 ki_m1 ?_
    exact G.iret dX11_earshot_17 rfl (rfl) h
  · refine G.iload_n dX11_earshot_9 rfl rfl ?_
    refine G.callSi [.int a2] [] dX11_earshot_10 lkX11_145 okX11_isHour (fun v hv => C_X11_isHour hv) (Nat.le_of_ble_eq_true rfl) rfl rfl (Nat.le_of_ble_eq_true rfl) h (fun v3 h => ?_)
    refine G.if_ne 18 dX11_earshot_13 (by decide) h (fun c4 h => ?_) (fun c4 h => ?_)
    · refine G.iconst (-1 : Int32) dX11_earshot_16 ki_m1 ?_
      exact G.iret dX11_earshot_17 rfl (rfl) h
    · refine G.aload_n dX11_earshot_18 rfl rfl ?_
      refine G.getR dX11_earshot_19 fkX11_46 fr11_6 h (fun v5 h => ?_)
      refine G.iload_n dX11_earshot_22 rfl rfl ?_
      refine G.iload_n dX11_earshot_23 rfl rfl ?_
      refine G.callVi (ci := 10) [.int a1, .int a2] [] dX11_earshot_24 lkX11_156 okX10_hearers rfl (fun v hv => C_X10_hearers hv) (Nat.le_of_ble_eq_true rfl) rfl rfl (Nat.le_of_ble_eq_true rfl) h (fun v6 h => ?_)
      exact G.iret dX11_earshot_27 rfl (rfl) h
-- OnlyUpward.areTwo(II)Z
set_option maxRecDepth 100000 in
set_option maxHeartbeats 4000000 in
def F_X11_areTwo (n : Nat) (M : AM) (a0 : Nat) (a1 : Int32) (a2 : Int32) : Option Int32 :=
  (rcv 11 M a0 (F_X11_isOne n M a0 (1 : Int32) a1)).bind fun v1 => if v1 = 0 then some (0 : Int32) else (rcv 11 M a0 (F_X11_isOne n M a0 (1 : Int32) a2)).bind fun v3 => if v3 = 0 then some (0 : Int32) else if a1 = a2 then some (0 : Int32) else some (1 : Int32)
set_option maxRecDepth 100000 in
set_option maxHeartbeats 4000000 in
theorem C_X11_areTwo {n : Nat} {M : AM} {a0 : Nat} {a1 : Int32} {a2 : Int32} {o : Int32} (h : F_X11_areTwo n M a0 a1 a2 = some o) : Cn yX11_areTwo cX11_areTwo 3 (some .boolean) 1 [.ref a0, .int a1, .int a2] M (some (.int o)) M := by
  unfold F_X11_areTwo at h
  refine Cn.of rfl (Nat.le_of_ble_eq_true rfl) ?_
  show G yX11_areTwo cX11_areTwo 3 (some .boolean) 1 0 [(0, .ref a0), (1, .int a1), (2, .int a2)] [] M (some (.int o)) M
  refine G.aload_n dX11_areTwo_0 rfl rfl ?_
  refine G.iconst (1 : Int32) dX11_areTwo_1 ki_1 ?_
  refine G.iload_n dX11_areTwo_2 rfl rfl ?_
  refine G.callVi (ci := 11) [.int (1 : Int32), .int a1] [] dX11_areTwo_3 lkX11_141 okX11_isOne rfl (fun v hv => C_X11_isOne hv) (Nat.le_of_ble_eq_true rfl) rfl rfl (Nat.le_of_ble_eq_true rfl) h (fun v1 h => ?_)
  refine G.if_eq 27 dX11_areTwo_6 (by decide) h (fun c2 h => ?_) (fun c2 h => ?_)
  · refine G.iconst (0 : Int32) dX11_areTwo_27 ki_0 ?_
    exact G.iret dX11_areTwo_28 rfl (by decide) h
  · refine G.aload_n dX11_areTwo_9 rfl rfl ?_
    refine G.iconst (1 : Int32) dX11_areTwo_10 ki_1 ?_
    refine G.iload_n dX11_areTwo_11 rfl rfl ?_
    refine G.callVi (ci := 11) [.int (1 : Int32), .int a2] [] dX11_areTwo_12 lkX11_141 okX11_isOne rfl (fun v hv => C_X11_isOne hv) (Nat.le_of_ble_eq_true rfl) rfl rfl (Nat.le_of_ble_eq_true rfl) h (fun v3 h => ?_)
    refine G.if_eq 27 dX11_areTwo_15 (by decide) h (fun c4 h => ?_) (fun c4 h => ?_)
    · refine G.iconst (0 : Int32) dX11_areTwo_27 ki_0 ?_
      exact G.iret dX11_areTwo_28 rfl (by decide) h
    · refine G.iload_n dX11_areTwo_18 rfl rfl ?_
      refine G.iload_n dX11_areTwo_19 rfl rfl ?_
      refine G.icmp_eq 27 dX11_areTwo_20 (by decide) h (fun c5 h => ?_) (fun c5 h => ?_)
      · refine G.iconst (0 : Int32) dX11_areTwo_27 ki_0 ?_
        exact G.iret dX11_areTwo_28 rfl (by decide) h
      · refine G.iconst (1 : Int32) dX11_areTwo_23 ki_1 ?_
        refine G.goto 28 dX11_areTwo_24 (by decide) ?_
        exact G.iret dX11_areTwo_28 rfl (by decide) h
-- OnlyUpward.may(IIIZ)I
set_option maxRecDepth 100000 in
set_option maxHeartbeats 4000000 in
def F_X11_may (n : Nat) (M : AM) (a0 : Nat) (a1 : Int32) (a2 : Int32) (a3 : Int32) (a4 : Int32) : Option (Int32 × AM) :=
  (rcv 11 M a0 (F_X11_areTwo n M a0 a1 a2)).bind fun v1 => if v1 = 0 then some ((-1 : Int32), M) else (F_X11_isHour n M a3).bind fun v3 => if v3 = 0 then some ((-1 : Int32), M) else (gR 11 6 M a0).bind fun v5 => (gR 11 6 M a0).bind fun v6 => (rcv 10 M v6 (F_X10_everybody n M v6)).bind fun v7 => (rcv 10 M v5 (F_X10_allows n M v5 a1 a2 a3 a4 v7)).bind fun v8 => if v8.1 = 0 then some ((0 : Int32), v8.2) else some ((1 : Int32), v8.2)
set_option maxRecDepth 100000 in
set_option maxHeartbeats 4000000 in
theorem C_X11_may {n : Nat} {M : AM} {a0 : Nat} {a1 : Int32} {a2 : Int32} {a3 : Int32} {a4 : Int32} {o : (Int32 × AM)} (h : F_X11_may n M a0 a1 a2 a3 a4 = some o) : Cn yX11_may cX11_may 5 (some .int) 4 [.ref a0, .int a1, .int a2, .int a3, .int a4] M (some (.int o.1)) o.2 := by
  unfold F_X11_may at h
  refine Cn.of rfl (Nat.le_of_ble_eq_true rfl) ?_
  show G yX11_may cX11_may 5 (some .int) 4 0 [(0, .ref a0), (1, .int a1), (2, .int a2), (3, .int a3), (4, .int a4)] [] M (some (.int o.1)) o.2
  refine G.aload_n dX11_may_0 rfl rfl ?_
  refine G.iload_n dX11_may_1 rfl rfl ?_
  refine G.iload_n dX11_may_2 rfl rfl ?_
  refine G.callVi (ci := 11) [.int a1, .int a2] [] dX11_may_3 lkX11_159 okX11_areTwo rfl (fun v hv => C_X11_areTwo hv) (Nat.le_of_ble_eq_true rfl) rfl rfl (Nat.le_of_ble_eq_true rfl) h (fun v1 h => ?_)
  refine G.if_eq 16 dX11_may_6 (by decide) h (fun c2 h => ?_) (fun c2 h => ?_)
  · refine G.iconst (-1 : Int32) dX11_may_16 ki_m1 ?_
    exact G.iretW dX11_may_17 rfl (rfl) h
  · refine G.iload_n dX11_may_9 rfl rfl ?_
    refine G.callSi [.int a3] [] dX11_may_10 lkX11_145 okX11_isHour (fun v hv => C_X11_isHour hv) (Nat.le_of_ble_eq_true rfl) rfl rfl (Nat.le_of_ble_eq_true rfl) h (fun v3 h => ?_)
    refine G.if_ne 18 dX11_may_13 (by decide) h (fun c4 h => ?_) (fun c4 h => ?_)
    · refine G.iconst (-1 : Int32) dX11_may_16 ki_m1 ?_
      exact G.iretW dX11_may_17 rfl (rfl) h
    · refine G.aload_n dX11_may_18 rfl rfl ?_
      refine G.getR dX11_may_19 fkX11_46 fr11_6 h (fun v5 h => ?_)
      refine G.iload_n dX11_may_22 rfl rfl ?_
      refine G.iload_n dX11_may_23 rfl rfl ?_
      refine G.iload_n dX11_may_24 rfl rfl ?_
      refine G.iload dX11_may_25 rfl ?_
      refine G.aload_n dX11_may_27 rfl rfl ?_
      refine G.getR dX11_may_28 fkX11_46 fr11_6 h (fun v6 h => ?_)
      refine G.callVi (ci := 10) [] [.int a4, .int a3, .int a2, .int a1, .ref v5] dX11_may_31 lkX11_162 okX10_everybody rfl (fun v hv => C_X10_everybody hv) (Nat.le_of_ble_eq_true rfl) rfl rfl (Nat.le_of_ble_eq_true rfl) h (fun v7 h => ?_)
      refine G.callVi (ci := 10) [.int a1, .int a2, .int a3, .int a4, .int v7] [] dX11_may_34 lkX11_166 okX10_allows rfl (fun v hv => C_X10_allows hv) (Nat.le_of_ble_eq_true rfl) rfl rfl (Nat.le_of_ble_eq_true rfl) h (fun v8 h => ?_)
      refine G.if_eq 44 dX11_may_37 (by decide) h (fun c9 h => ?_) (fun c9 h => ?_)
      · refine G.iconst (0 : Int32) dX11_may_44 ki_0 ?_
        exact G.iretW dX11_may_45 rfl (rfl) h
      · refine G.iconst (1 : Int32) dX11_may_40 ki_1 ?_
        refine G.goto 45 dX11_may_41 (by decide) ?_
        exact G.iretW dX11_may_45 rfl (rfl) h
-- OnlyUpward$Plan.add(IIIII)I
set_option maxRecDepth 100000 in
set_option maxHeartbeats 4000000 in
def F_X5_add (n : Nat) (M : AM) (a0 : Nat) (a1 : Int32) (a2 : Int32) (a3 : Int32) (a4 : Int32) (a5 : Int32) : Option (Int32 × AM) :=
  (gI 5 1 M a0).bind fun v1 => if v1 < (30 : Int32) then (gI 5 1 M a0).bind fun v3 => (gR 5 0 M a0).bind fun v4 => (wrI M v4 (v3 * (5 : Int32)) a1).bind fun M5 => (gR 5 0 M5 a0).bind fun v6 => (wrI M5 v6 ((v3 * (5 : Int32)) + (1 : Int32)) a2).bind fun M7 => (gR 5 0 M7 a0).bind fun v8 => (wrI M7 v8 ((v3 * (5 : Int32)) + (2 : Int32)) a3).bind fun M9 => (gR 5 0 M9 a0).bind fun v10 => (wrI M9 v10 ((v3 * (5 : Int32)) + (3 : Int32)) a4).bind fun M11 => (gR 5 0 M11 a0).bind fun v12 => (wrI M11 v12 ((v3 * (5 : Int32)) + (4 : Int32)) a5).bind fun M13 => (gI 5 1 M13 a0).bind fun v14 => (pI 5 1 M13 a0 (v14 + (1 : Int32))).bind fun M15 => (gI 5 1 M15 a0).bind fun v16 => some ((v16 - (1 : Int32)), M15) else some ((-1 : Int32), M)
set_option maxRecDepth 100000 in
set_option maxHeartbeats 4000000 in
theorem C_X5_add {n : Nat} {M : AM} {a0 : Nat} {a1 : Int32} {a2 : Int32} {a3 : Int32} {a4 : Int32} {a5 : Int32} {o : (Int32 × AM)} (h : F_X5_add n M a0 a1 a2 a3 a4 a5 = some o) : Cn yX5_add cX5_add 7 (some .int) 0 [.ref a0, .int a1, .int a2, .int a3, .int a4, .int a5] M (some (.int o.1)) o.2 := by
  unfold F_X5_add at h
  refine Cn.of rfl (Nat.le_of_ble_eq_true rfl) ?_
  show G yX5_add cX5_add 7 (some .int) 0 0 [(0, .ref a0), (1, .int a1), (2, .int a2), (3, .int a3), (4, .int a4), (5, .int a5)] [] M (some (.int o.1)) o.2
  refine G.aload_n dX5_add_0 rfl rfl ?_
  refine G.getI dX5_add_1 fkX5_15 fr5_1 h (fun v1 h => ?_)
  refine G.bipush (30 : Int32) dX5_add_4 kb_30 ?_
  refine G.icmp_lt 11 dX5_add_6 (by decide) h (fun c2 h => ?_) (fun c2 h => ?_)
  · refine G.aload_n dX5_add_11 rfl rfl ?_
    refine G.getI dX5_add_12 fkX5_15 fr5_1 h (fun v3 h => ?_)
    refine G.iconst (5 : Int32) dX5_add_15 ki_5 ?_
    refine G.imul dX5_add_16 ?_
    refine G.istore (lv' := [(6, .int (v3 * (5 : Int32))), (0, .ref a0), (1, .int a1), (2, .int a2), (3, .int a3), (4, .int a4), (5, .int a5)]) dX5_add_17 (Nat.le_of_ble_eq_true rfl) rfl ?_
    refine G.aload_n dX5_add_19 rfl rfl ?_
    refine G.getR dX5_add_20 fkX5_11 fr5_0 h (fun v4 h => ?_)
    refine G.iload dX5_add_23 rfl ?_
    refine G.iload_n dX5_add_25 rfl rfl ?_
    refine G.iast dX5_add_26 h (fun M5 h => ?_)
    refine G.aload_n dX5_add_27 rfl rfl ?_
    refine G.getR dX5_add_28 fkX5_11 fr5_0 h (fun v6 h => ?_)
    refine G.iload dX5_add_31 rfl ?_
    refine G.iconst (1 : Int32) dX5_add_33 ki_1 ?_
    refine G.iadd dX5_add_34 ?_
    refine G.iload_n dX5_add_35 rfl rfl ?_
    refine G.iast dX5_add_36 h (fun M7 h => ?_)
    refine G.aload_n dX5_add_37 rfl rfl ?_
    refine G.getR dX5_add_38 fkX5_11 fr5_0 h (fun v8 h => ?_)
    refine G.iload dX5_add_41 rfl ?_
    refine G.iconst (2 : Int32) dX5_add_43 ki_2 ?_
    refine G.iadd dX5_add_44 ?_
    refine G.iload_n dX5_add_45 rfl rfl ?_
    refine G.iast dX5_add_46 h (fun M9 h => ?_)
    refine G.aload_n dX5_add_47 rfl rfl ?_
    refine G.getR dX5_add_48 fkX5_11 fr5_0 h (fun v10 h => ?_)
    refine G.iload dX5_add_51 rfl ?_
    refine G.iconst (3 : Int32) dX5_add_53 ki_3 ?_
    refine G.iadd dX5_add_54 ?_
    refine G.iload dX5_add_55 rfl ?_
    refine G.iast dX5_add_57 h (fun M11 h => ?_)
    refine G.aload_n dX5_add_58 rfl rfl ?_
    refine G.getR dX5_add_59 fkX5_11 fr5_0 h (fun v12 h => ?_)
    refine G.iload dX5_add_62 rfl ?_
    refine G.iconst (4 : Int32) dX5_add_64 ki_4 ?_
    refine G.iadd dX5_add_65 ?_
    refine G.iload dX5_add_66 rfl ?_
    refine G.iast dX5_add_68 h (fun M13 h => ?_)
    refine G.aload_n dX5_add_69 rfl rfl ?_
    refine G.dup dX5_add_70 rfl ?_
    refine G.getI dX5_add_71 fkX5_15 fr5_1 h (fun v14 h => ?_)
    refine G.iconst (1 : Int32) dX5_add_74 ki_1 ?_
    refine G.iadd dX5_add_75 ?_
    refine G.putI dX5_add_76 fkX5_15 nf5_1 ft5_1 h (fun M15 h => ?_)
    refine G.aload_n dX5_add_79 rfl rfl ?_
    refine G.getI dX5_add_80 fkX5_15 fr5_1 h (fun v16 h => ?_)
    refine G.iconst (1 : Int32) dX5_add_83 ki_1 ?_
    refine G.isub dX5_add_84 ?_
    exact G.iretW dX5_add_85 rfl (rfl) h
  · refine G.iconst (-1 : Int32) dX5_add_9 ki_m1 ?_
    exact G.iretW dX5_add_10 rfl (rfl) h
-- OnlyUpward.intoPlan(IIIII)I
set_option maxRecDepth 100000 in
set_option maxHeartbeats 4000000 in
def F_X11_intoPlan (n : Nat) (M : AM) (a0 : Nat) (a1 : Int32) (a2 : Int32) (a3 : Int32) (a4 : Int32) (a5 : Int32) : Option (Int32 × AM) :=
  (pZ 11 10 M a0 (0 : Int32)).bind fun M1 => (gR 11 8 M1 a0).bind fun v2 => (rcv 5 M1 v2 (F_X5_add n M1 v2 a1 a2 a3 a4 a5)).bind fun v3 => some (v3.1, v3.2)
set_option maxRecDepth 100000 in
set_option maxHeartbeats 4000000 in
theorem C_X11_intoPlan {n : Nat} {M : AM} {a0 : Nat} {a1 : Int32} {a2 : Int32} {a3 : Int32} {a4 : Int32} {a5 : Int32} {o : (Int32 × AM)} (h : F_X11_intoPlan n M a0 a1 a2 a3 a4 a5 = some o) : Cn yX11_intoPlan cX11_intoPlan 6 (some .int) 1 [.ref a0, .int a1, .int a2, .int a3, .int a4, .int a5] M (some (.int o.1)) o.2 := by
  unfold F_X11_intoPlan at h
  refine Cn.of rfl (Nat.le_of_ble_eq_true rfl) ?_
  show G yX11_intoPlan cX11_intoPlan 6 (some .int) 1 0 [(0, .ref a0), (1, .int a1), (2, .int a2), (3, .int a3), (4, .int a4), (5, .int a5)] [] M (some (.int o.1)) o.2
  refine G.aload_n dX11_intoPlan_0 rfl rfl ?_
  refine G.iconst (0 : Int32) dX11_intoPlan_1 ki_0 ?_
  refine G.putZ dX11_intoPlan_2 fkX11_67 nf11_10 ft11_10 h (fun M1 h => ?_)
  refine G.aload_n dX11_intoPlan_5 rfl rfl ?_
  refine G.getR dX11_intoPlan_6 fkX11_56 fr11_8 h (fun v2 h => ?_)
  refine G.iload_n dX11_intoPlan_9 rfl rfl ?_
  refine G.iload_n dX11_intoPlan_10 rfl rfl ?_
  refine G.iload_n dX11_intoPlan_11 rfl rfl ?_
  refine G.iload dX11_intoPlan_12 rfl ?_
  refine G.iload dX11_intoPlan_14 rfl ?_
  refine G.callVi (ci := 5) [.int a1, .int a2, .int a3, .int a4, .int a5] [] dX11_intoPlan_16 lkX11_177 okX5_add rfl (fun v hv => C_X5_add hv) (Nat.le_of_ble_eq_true rfl) rfl rfl (Nat.le_of_ble_eq_true rfl) h (fun v3 h => ?_)
  exact G.iretW dX11_intoPlan_19 rfl (rfl) h
-- OnlyUpward.say(IIII)I
set_option maxRecDepth 100000 in
set_option maxHeartbeats 4000000 in
def F_X11_say (n : Nat) (M : AM) (a0 : Nat) (a1 : Int32) (a2 : Int32) (a3 : Int32) (a4 : Int32) : Option (Int32 × AM) :=
  (F_X11_isHour n M a1).bind fun v1 => if v1 = 0 then some ((-1 : Int32), M) else (rcv 11 M a0 (F_X11_areTwo n M a0 a2 a3)).bind fun v3 => if v3 = 0 then some ((-1 : Int32), M) else (rcv 11 M a0 (F_X11_isOne n M a0 (2 : Int32) a4)).bind fun v5 => if v5 = 0 then some ((-1 : Int32), M) else (rcv 11 M a0 (F_X11_intoPlan n M a0 (0 : Int32) a1 a2 a3 a4)).bind fun v7 => some (v7.1, v7.2)
set_option maxRecDepth 100000 in
set_option maxHeartbeats 4000000 in
theorem C_X11_say {n : Nat} {M : AM} {a0 : Nat} {a1 : Int32} {a2 : Int32} {a3 : Int32} {a4 : Int32} {o : (Int32 × AM)} (h : F_X11_say n M a0 a1 a2 a3 a4 = some o) : Cn yX11_say cX11_say 5 (some .int) 2 [.ref a0, .int a1, .int a2, .int a3, .int a4] M (some (.int o.1)) o.2 := by
  unfold F_X11_say at h
  refine Cn.of rfl (Nat.le_of_ble_eq_true rfl) ?_
  show G yX11_say cX11_say 5 (some .int) 2 0 [(0, .ref a0), (1, .int a1), (2, .int a2), (3, .int a3), (4, .int a4)] [] M (some (.int o.1)) o.2
  refine G.iload_n dX11_say_0 rfl rfl ?_
  refine G.callSi [.int a1] [] dX11_say_1 lkX11_145 okX11_isHour (fun v hv => C_X11_isHour hv) (Nat.le_of_ble_eq_true rfl) rfl rfl (Nat.le_of_ble_eq_true rfl) h (fun v1 h => ?_)
  refine G.if_eq 26 dX11_say_4 (by decide) h (fun c2 h => ?_) (fun c2 h => ?_)
  · refine G.iconst (-1 : Int32) dX11_say_26 ki_m1 ?_
    exact G.iretW dX11_say_27 rfl (rfl) h
  · refine G.aload_n dX11_say_7 rfl rfl ?_
    refine G.iload_n dX11_say_8 rfl rfl ?_
    refine G.iload_n dX11_say_9 rfl rfl ?_
    refine G.callVi (ci := 11) [.int a2, .int a3] [] dX11_say_10 lkX11_159 okX11_areTwo rfl (fun v hv => C_X11_areTwo hv) (Nat.le_of_ble_eq_true rfl) rfl rfl (Nat.le_of_ble_eq_true rfl) h (fun v3 h => ?_)
    refine G.if_eq 26 dX11_say_13 (by decide) h (fun c4 h => ?_) (fun c4 h => ?_)
    · refine G.iconst (-1 : Int32) dX11_say_26 ki_m1 ?_
      exact G.iretW dX11_say_27 rfl (rfl) h
    · refine G.aload_n dX11_say_16 rfl rfl ?_
      refine G.iconst (2 : Int32) dX11_say_17 ki_2 ?_
      refine G.iload dX11_say_18 rfl ?_
      refine G.callVi (ci := 11) [.int (2 : Int32), .int a4] [] dX11_say_20 lkX11_141 okX11_isOne rfl (fun v hv => C_X11_isOne hv) (Nat.le_of_ble_eq_true rfl) rfl rfl (Nat.le_of_ble_eq_true rfl) h (fun v5 h => ?_)
      refine G.if_ne 28 dX11_say_23 (by decide) h (fun c6 h => ?_) (fun c6 h => ?_)
      · refine G.iconst (-1 : Int32) dX11_say_26 ki_m1 ?_
        exact G.iretW dX11_say_27 rfl (rfl) h
      · refine G.aload_n dX11_say_28 rfl rfl ?_
        refine G.iconst (0 : Int32) dX11_say_29 ki_0 ?_
        refine G.iload_n dX11_say_30 rfl rfl ?_
        refine G.iload_n dX11_say_31 rfl rfl ?_
        refine G.iload_n dX11_say_32 rfl rfl ?_
        refine G.iload dX11_say_33 rfl ?_
        refine G.callVi (ci := 11) [.int (0 : Int32), .int a1, .int a2, .int a3, .int a4] [] dX11_say_35 lkX11_170 okX11_intoPlan rfl (fun v hv => C_X11_intoPlan hv) (Nat.le_of_ble_eq_true rfl) rfl rfl (Nat.le_of_ble_eq_true rfl) h (fun v7 h => ?_)
        exact G.iretW dX11_say_38 rfl (rfl) h
-- OnlyUpward.show(III)I
set_option maxRecDepth 100000 in
set_option maxHeartbeats 4000000 in
def F_X11_show (n : Nat) (M : AM) (a0 : Nat) (a1 : Int32) (a2 : Int32) (a3 : Int32) : Option (Int32 × AM) :=
  (F_X11_isHour n M a1).bind fun v1 => if v1 = 0 then some ((-1 : Int32), M) else (rcv 11 M a0 (F_X11_isOne n M a0 (1 : Int32) a2)).bind fun v3 => if v3 = 0 then some ((-1 : Int32), M) else (rcv 11 M a0 (F_X11_isOne n M a0 (7 : Int32) a3)).bind fun v5 => if v5 = 0 then some ((-1 : Int32), M) else (gR 11 6 M a0).bind fun v7 => (gR 10 9 M v7).bind fun v8 => (rdI M v8 a3).bind fun v9 => (rcv 11 M a0 (F_X11_intoPlan n M a0 (1 : Int32) a1 a2 a3 v9)).bind fun v10 => some (v10.1, v10.2)
set_option maxRecDepth 100000 in
set_option maxHeartbeats 4000000 in
theorem C_X11_show {n : Nat} {M : AM} {a0 : Nat} {a1 : Int32} {a2 : Int32} {a3 : Int32} {o : (Int32 × AM)} (h : F_X11_show n M a0 a1 a2 a3 = some o) : Cn yX11_show cX11_show 4 (some .int) 2 [.ref a0, .int a1, .int a2, .int a3] M (some (.int o.1)) o.2 := by
  unfold F_X11_show at h
  refine Cn.of rfl (Nat.le_of_ble_eq_true rfl) ?_
  show G yX11_show cX11_show 4 (some .int) 2 0 [(0, .ref a0), (1, .int a1), (2, .int a2), (3, .int a3)] [] M (some (.int o.1)) o.2
  refine G.iload_n dX11_show_0 rfl rfl ?_
  refine G.callSi [.int a1] [] dX11_show_1 lkX11_145 okX11_isHour (fun v hv => C_X11_isHour hv) (Nat.le_of_ble_eq_true rfl) rfl rfl (Nat.le_of_ble_eq_true rfl) h (fun v1 h => ?_)
  refine G.if_eq 26 dX11_show_4 (by decide) h (fun c2 h => ?_) (fun c2 h => ?_)
  · refine G.iconst (-1 : Int32) dX11_show_26 ki_m1 ?_
    exact G.iretW dX11_show_27 rfl (rfl) h
  · refine G.aload_n dX11_show_7 rfl rfl ?_
    refine G.iconst (1 : Int32) dX11_show_8 ki_1 ?_
    refine G.iload_n dX11_show_9 rfl rfl ?_
    refine G.callVi (ci := 11) [.int (1 : Int32), .int a2] [] dX11_show_10 lkX11_141 okX11_isOne rfl (fun v hv => C_X11_isOne hv) (Nat.le_of_ble_eq_true rfl) rfl rfl (Nat.le_of_ble_eq_true rfl) h (fun v3 h => ?_)
    refine G.if_eq 26 dX11_show_13 (by decide) h (fun c4 h => ?_) (fun c4 h => ?_)
    · refine G.iconst (-1 : Int32) dX11_show_26 ki_m1 ?_
      exact G.iretW dX11_show_27 rfl (rfl) h
    · refine G.aload_n dX11_show_16 rfl rfl ?_
      refine G.bipush (7 : Int32) dX11_show_17 kb_7 ?_
      refine G.iload_n dX11_show_19 rfl rfl ?_
      refine G.callVi (ci := 11) [.int (7 : Int32), .int a3] [] dX11_show_20 lkX11_141 okX11_isOne rfl (fun v hv => C_X11_isOne hv) (Nat.le_of_ble_eq_true rfl) rfl rfl (Nat.le_of_ble_eq_true rfl) h (fun v5 h => ?_)
      refine G.if_ne 28 dX11_show_23 (by decide) h (fun c6 h => ?_) (fun c6 h => ?_)
      · refine G.iconst (-1 : Int32) dX11_show_26 ki_m1 ?_
        exact G.iretW dX11_show_27 rfl (rfl) h
      · refine G.aload_n dX11_show_28 rfl rfl ?_
        refine G.iconst (1 : Int32) dX11_show_29 ki_1 ?_
        refine G.iload_n dX11_show_30 rfl rfl ?_
        refine G.iload_n dX11_show_31 rfl rfl ?_
        refine G.iload_n dX11_show_32 rfl rfl ?_
        refine G.aload_n dX11_show_33 rfl rfl ?_
        refine G.getR dX11_show_34 fkX11_46 fr11_6 h (fun v7 h => ?_)
        refine G.getR dX11_show_37 fkX11_174 fr10_9 h (fun v8 h => ?_)
        refine G.iload_n dX11_show_40 rfl rfl ?_
        refine G.iald dX11_show_41 h (fun v9 h => ?_)
        refine G.callVi (ci := 11) [.int (1 : Int32), .int a1, .int a2, .int a3, .int v9] [] dX11_show_42 lkX11_170 okX11_intoPlan rfl (fun v hv => C_X11_intoPlan hv) (Nat.le_of_ble_eq_true rfl) rfl rfl (Nat.le_of_ble_eq_true rfl) h (fun v10 h => ?_)
        exact G.iretW dX11_show_45 rfl (rfl) h
-- OnlyUpward.leave(III)I
set_option maxRecDepth 100000 in
set_option maxHeartbeats 4000000 in
def F_X11_leave (n : Nat) (M : AM) (a0 : Nat) (a1 : Int32) (a2 : Int32) (a3 : Int32) : Option (Int32 × AM) :=
  (F_X11_isHour n M a1).bind fun v1 => if v1 = 0 then some ((-1 : Int32), M) else (rcv 11 M a0 (F_X11_isOne n M a0 (1 : Int32) a2)).bind fun v3 => if v3 = 0 then some ((-1 : Int32), M) else (rcv 11 M a0 (F_X11_isOne n M a0 (2 : Int32) a3)).bind fun v5 => if v5 = 0 then some ((-1 : Int32), M) else (rcv 11 M a0 (F_X11_intoPlan n M a0 (2 : Int32) a1 a2 (-1 : Int32) a3)).bind fun v7 => some (v7.1, v7.2)
set_option maxRecDepth 100000 in
set_option maxHeartbeats 4000000 in
theorem C_X11_leave {n : Nat} {M : AM} {a0 : Nat} {a1 : Int32} {a2 : Int32} {a3 : Int32} {o : (Int32 × AM)} (h : F_X11_leave n M a0 a1 a2 a3 = some o) : Cn yX11_leave cX11_leave 4 (some .int) 2 [.ref a0, .int a1, .int a2, .int a3] M (some (.int o.1)) o.2 := by
  unfold F_X11_leave at h
  refine Cn.of rfl (Nat.le_of_ble_eq_true rfl) ?_
  show G yX11_leave cX11_leave 4 (some .int) 2 0 [(0, .ref a0), (1, .int a1), (2, .int a2), (3, .int a3)] [] M (some (.int o.1)) o.2
  refine G.iload_n dX11_leave_0 rfl rfl ?_
  refine G.callSi [.int a1] [] dX11_leave_1 lkX11_145 okX11_isHour (fun v hv => C_X11_isHour hv) (Nat.le_of_ble_eq_true rfl) rfl rfl (Nat.le_of_ble_eq_true rfl) h (fun v1 h => ?_)
  refine G.if_eq 25 dX11_leave_4 (by decide) h (fun c2 h => ?_) (fun c2 h => ?_)
  · refine G.iconst (-1 : Int32) dX11_leave_25 ki_m1 ?_
    exact G.iretW dX11_leave_26 rfl (rfl) h
  · refine G.aload_n dX11_leave_7 rfl rfl ?_
    refine G.iconst (1 : Int32) dX11_leave_8 ki_1 ?_
    refine G.iload_n dX11_leave_9 rfl rfl ?_
    refine G.callVi (ci := 11) [.int (1 : Int32), .int a2] [] dX11_leave_10 lkX11_141 okX11_isOne rfl (fun v hv => C_X11_isOne hv) (Nat.le_of_ble_eq_true rfl) rfl rfl (Nat.le_of_ble_eq_true rfl) h (fun v3 h => ?_)
    refine G.if_eq 25 dX11_leave_13 (by decide) h (fun c4 h => ?_) (fun c4 h => ?_)
    · refine G.iconst (-1 : Int32) dX11_leave_25 ki_m1 ?_
      exact G.iretW dX11_leave_26 rfl (rfl) h
    · refine G.aload_n dX11_leave_16 rfl rfl ?_
      refine G.iconst (2 : Int32) dX11_leave_17 ki_2 ?_
      refine G.iload_n dX11_leave_18 rfl rfl ?_
      refine G.callVi (ci := 11) [.int (2 : Int32), .int a3] [] dX11_leave_19 lkX11_141 okX11_isOne rfl (fun v hv => C_X11_isOne hv) (Nat.le_of_ble_eq_true rfl) rfl rfl (Nat.le_of_ble_eq_true rfl) h (fun v5 h => ?_)
      refine G.if_ne 27 dX11_leave_22 (by decide) h (fun c6 h => ?_) (fun c6 h => ?_)
      · refine G.iconst (-1 : Int32) dX11_leave_25 ki_m1 ?_
        exact G.iretW dX11_leave_26 rfl (rfl) h
      · refine G.aload_n dX11_leave_27 rfl rfl ?_
        refine G.iconst (2 : Int32) dX11_leave_28 ki_2 ?_
        refine G.iload_n dX11_leave_29 rfl rfl ?_
        refine G.iload_n dX11_leave_30 rfl rfl ?_
        refine G.iconst (-1 : Int32) dX11_leave_31 ki_m1 ?_
        refine G.iload_n dX11_leave_32 rfl rfl ?_
        refine G.callVi (ci := 11) [.int (2 : Int32), .int a1, .int a2, .int (-1 : Int32), .int a3] [] dX11_leave_33 lkX11_170 okX11_intoPlan rfl (fun v hv => C_X11_intoPlan hv) (Nat.le_of_ble_eq_true rfl) rfl rfl (Nat.le_of_ble_eq_true rfl) h (fun v7 h => ?_)
        exact G.iretW dX11_leave_36 rfl (rfl) h
-- OnlyUpward.ask(IIII)I
set_option maxRecDepth 100000 in
set_option maxHeartbeats 4000000 in
def F_X11_ask (n : Nat) (M : AM) (a0 : Nat) (a1 : Int32) (a2 : Int32) (a3 : Int32) (a4 : Int32) : Option (Int32 × AM) :=
  (F_X11_isHour n M a1).bind fun v1 => if v1 = 0 then some ((-1 : Int32), M) else (rcv 11 M a0 (F_X11_areTwo n M a0 a2 a3)).bind fun v3 => if v3 = 0 then some ((-1 : Int32), M) else (rcv 11 M a0 (F_X11_isOne n M a0 (2 : Int32) a4)).bind fun v5 => if v5 = 0 then some ((-1 : Int32), M) else (rcv 11 M a0 (F_X11_intoPlan n M a0 (3 : Int32) a1 a2 a3 a4)).bind fun v7 => some (v7.1, v7.2)
set_option maxRecDepth 100000 in
set_option maxHeartbeats 4000000 in
theorem C_X11_ask {n : Nat} {M : AM} {a0 : Nat} {a1 : Int32} {a2 : Int32} {a3 : Int32} {a4 : Int32} {o : (Int32 × AM)} (h : F_X11_ask n M a0 a1 a2 a3 a4 = some o) : Cn yX11_ask cX11_ask 5 (some .int) 2 [.ref a0, .int a1, .int a2, .int a3, .int a4] M (some (.int o.1)) o.2 := by
  unfold F_X11_ask at h
  refine Cn.of rfl (Nat.le_of_ble_eq_true rfl) ?_
  show G yX11_ask cX11_ask 5 (some .int) 2 0 [(0, .ref a0), (1, .int a1), (2, .int a2), (3, .int a3), (4, .int a4)] [] M (some (.int o.1)) o.2
  refine G.iload_n dX11_ask_0 rfl rfl ?_
  refine G.callSi [.int a1] [] dX11_ask_1 lkX11_145 okX11_isHour (fun v hv => C_X11_isHour hv) (Nat.le_of_ble_eq_true rfl) rfl rfl (Nat.le_of_ble_eq_true rfl) h (fun v1 h => ?_)
  refine G.if_eq 26 dX11_ask_4 (by decide) h (fun c2 h => ?_) (fun c2 h => ?_)
  · refine G.iconst (-1 : Int32) dX11_ask_26 ki_m1 ?_
    exact G.iretW dX11_ask_27 rfl (rfl) h
  · refine G.aload_n dX11_ask_7 rfl rfl ?_
    refine G.iload_n dX11_ask_8 rfl rfl ?_
    refine G.iload_n dX11_ask_9 rfl rfl ?_
    refine G.callVi (ci := 11) [.int a2, .int a3] [] dX11_ask_10 lkX11_159 okX11_areTwo rfl (fun v hv => C_X11_areTwo hv) (Nat.le_of_ble_eq_true rfl) rfl rfl (Nat.le_of_ble_eq_true rfl) h (fun v3 h => ?_)
    refine G.if_eq 26 dX11_ask_13 (by decide) h (fun c4 h => ?_) (fun c4 h => ?_)
    · refine G.iconst (-1 : Int32) dX11_ask_26 ki_m1 ?_
      exact G.iretW dX11_ask_27 rfl (rfl) h
    · refine G.aload_n dX11_ask_16 rfl rfl ?_
      refine G.iconst (2 : Int32) dX11_ask_17 ki_2 ?_
      refine G.iload dX11_ask_18 rfl ?_
      refine G.callVi (ci := 11) [.int (2 : Int32), .int a4] [] dX11_ask_20 lkX11_141 okX11_isOne rfl (fun v hv => C_X11_isOne hv) (Nat.le_of_ble_eq_true rfl) rfl rfl (Nat.le_of_ble_eq_true rfl) h (fun v5 h => ?_)
      refine G.if_ne 28 dX11_ask_23 (by decide) h (fun c6 h => ?_) (fun c6 h => ?_)
      · refine G.iconst (-1 : Int32) dX11_ask_26 ki_m1 ?_
        exact G.iretW dX11_ask_27 rfl (rfl) h
      · refine G.aload_n dX11_ask_28 rfl rfl ?_
        refine G.iconst (3 : Int32) dX11_ask_29 ki_3 ?_
        refine G.iload_n dX11_ask_30 rfl rfl ?_
        refine G.iload_n dX11_ask_31 rfl rfl ?_
        refine G.iload_n dX11_ask_32 rfl rfl ?_
        refine G.iload dX11_ask_33 rfl ?_
        refine G.callVi (ci := 11) [.int (3 : Int32), .int a1, .int a2, .int a3, .int a4] [] dX11_ask_35 lkX11_170 okX11_intoPlan rfl (fun v hv => C_X11_intoPlan hv) (Nat.le_of_ble_eq_true rfl) rfl rfl (Nat.le_of_ble_eq_true rfl) h (fun v7 h => ?_)
        exact G.iretW dX11_ask_38 rfl (rfl) h
