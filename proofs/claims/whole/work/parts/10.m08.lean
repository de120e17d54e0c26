-- OnlyUpwardModel.tellsMost(II)V
set_option maxRecDepth 100000 in
set_option maxHeartbeats 4000000 in
def F_X12_tellsMost (n : Nat) (M : AM) (a0 : Nat) (a1 : Int32) (a2 : Int32) : Option AM :=
  (rcv 12 M a0 (F_X12_placeOf n M a0 a1 a2)).bind fun v1 => if 0 ≤ v1 then (pI 12 84 M a0 (0 : Int32)).bind fun M3 => (iter (fun (s4 : Int32 × AM) => (rcv 12 s4.2 a0 (F_X12_has n s4.2 a0 (1 : Int32))).bind fun v5 => if v5 ≤ s4.1 then some (.inr s4.2) else (rcv 12 s4.2 a0 (F_X12_mayBy n s4.2 a0 a1 s4.1 a2 (0 : Int32) (0 : Int32))).bind fun v7 => jn (fun (M8 : AM) => some (.inl ((s4.1 + (1 : Int32)), M8))) fun j9 => if v7.1 = 0 then j9 v7.2 else (iter (fun (s11 : Int32 × AM) => (rcv 12 s11.2 a0 (F_X12_has n s11.2 a0 (2 : Int32))).bind fun v12 => if v12 ≤ s11.1 then some (.inr s11.2) else (rcv 12 s11.2 a0 (F_X12_knowsIt n s11.2 a0 a1 a2 s11.1)).bind fun v14 => jn (fun (M15 : AM) => some (.inl ((s11.1 + (1 : Int32)), M15))) fun j16 => if v14 = 0 then j16 s11.2 else (rcv 12 s11.2 a0 (F_X12_earshotOf n s11.2 a0 v1 a2)).bind fun v18 => (rcv 12 s11.2 a0 (F_X12_offers n s11.2 a0 v18 a2 s11.1 (1 : Int32))).bind fun M20 => j16 M20) n ((0 : Int32), v7.2)).bind fun (e11 : AM) => j9 e11) n ((0 : Int32), M3)).bind fun (e4 : AM) => (iter (fun (s21 : Int32 × AM) => (rcv 12 s21.2 a0 (F_X12_has n s21.2 a0 (7 : Int32))).bind fun v22 => if v22 ≤ s21.1 then some (.inr s21.2) else (gR 12 40 s21.2 a0).bind fun v24 => (gI 12 18 s21.2 a0).bind fun v25 => (rdI s21.2 v24 (((6 : Int32) * v25) + s21.1)).bind fun v26 => (rcv 12 s21.2 a0 (F_X12_knowsIt n s21.2 a0 a1 a2 v26)).bind fun v27 => jn (fun (M28 : AM) => some (.inl ((s21.1 + (1 : Int32)), M28))) fun j29 => if v27 = 0 then j29 s21.2 else (rcv 12 s21.2 a0 (F_X12_crowdAt n s21.2 a0 v1 a2)).bind fun v31 => (gR 12 41 s21.2 a0).bind fun v32 => (gI 12 18 s21.2 a0).bind fun v33 => (rdI s21.2 v32 (((6 : Int32) * v33) + s21.1)).bind fun v34 => (rcv 12 s21.2 a0 (F_X12_offers n s21.2 a0 v31 a2 v26 v34)).bind fun M36 => j29 M36) n ((0 : Int32), e4)).bind fun (e21 : AM) => (gI 12 84 e21 a0).bind fun v37 => if v37 = 0 then some e21 else (gI 12 85 e21 a0).bind fun v39 => (gI 12 86 e21 a0).bind fun v40 => (rcv 12 e21 a0 (F_X12_learn n e21 a0 v39 a2 ((1 : Int32) <<< (v40 &&& 31)))).bind fun M42 => (gI 12 82 M42 a0).bind fun v43 => (gI 12 87 M42 a0).bind fun v44 => (pI 12 82 M42 a0 (v43 + v44)).bind fun M45 => (gI 12 83 M45 a0).bind fun v46 => (pI 12 83 M45 a0 (v46 + (1 : Int32))).bind fun M47 => some M47 else some M
set_option maxRecDepth 100000 in
set_option maxHeartbeats 4000000 in
theorem C_X12_tellsMost {n : Nat} {M : AM} {a0 : Nat} {a1 : Int32} {a2 : Int32} {o : AM} (h : F_X12_tellsMost n M a0 a1 a2 = some o) : Cn yX12_tellsMost cX12_tellsMost 6 none 4 [.ref a0, .int a1, .int a2] M none o := by
  unfold F_X12_tellsMost at h
  refine Cn.of rfl (Nat.le_of_ble_eq_true rfl) ?_
  show G yX12_tellsMost cX12_tellsMost 6 none 4 0 [(0, .ref a0), (1, .int a1), (2, .int a2)] [] M none o
  refine G.aload_n dX12_tellsMost_0 rfl rfl ?_
  refine G.iload_n dX12_tellsMost_1 rfl rfl ?_
  refine G.iload_n dX12_tellsMost_2 rfl rfl ?_
  refine G.callVi (ci := 12) [.int a1, .int a2] [] dX12_tellsMost_3 lkX12_396 okX12_placeOf rfl (fun v hv => C_X12_placeOf hv) (Nat.le_of_ble_eq_true rfl) rfl rfl (Nat.le_of_ble_eq_true rfl) h (fun v1 h => ?_)
  refine G.istore_n (lv' := [(3, .int v1), (0, .ref a0), (1, .int a1), (2, .int a2)]) dX12_tellsMost_6 rfl (Nat.le_of_ble_eq_true rfl) rfl ?_
  refine G.iload_n dX12_tellsMost_7 rfl rfl ?_
  refine G.if_ge 12 dX12_tellsMost_8 (by decide) h (fun c2 h => ?_) (fun c2 h => ?_)
  · refine G.aload_n dX12_tellsMost_12 rfl rfl ?_
    refine G.iconst (0 : Int32) dX12_tellsMost_13 ki_0 ?_
    refine G.putI dX12_tellsMost_14 fkX12_552 nf12_84 ft12_84 h (fun M3 h => ?_)
    refine G.iconst (0 : Int32) dX12_tellsMost_17 ki_0 ?_
    refine G.istore (lv' := [(4, .int (0 : Int32)), (3, .int v1), (0, .ref a0), (1, .int a1), (2, .int a2)]) dX12_tellsMost_18 (Nat.le_of_ble_eq_true rfl) rfl ?_
    refine G.sub (lv' := [(0, .ref a0), (1, .int a1), (2, .int a2), (3, .int v1), (4, .int (0 : Int32))]) [2, 3, 4, 1, 0] rfl ?_
    refine loopE (fun (s4 : Int32 × AM) => G yX12_tellsMost cX12_tellsMost 6 none 4 20 [(0, .ref a0), (1, .int a1), (2, .int a2), (3, .int v1), (4, .int s4.1)] [] s4.2 none o) (fun (e4 : AM) => G yX12_tellsMost cX12_tellsMost 6 none 4 96 [(0, .ref a0), (1, .int a1), (2, .int a2), (3, .int v1)] [] e4 none o) h ?_ ?_
    · intro e4 h
      show G yX12_tellsMost cX12_tellsMost 6 none 4 96 [(0, .ref a0), (1, .int a1), (2, .int a2), (3, .int v1)] [] e4 none o
      refine G.iconst (0 : Int32) dX12_tellsMost_96 ki_0 ?_
      refine G.istore (lv' := [(4, .int (0 : Int32)), (0, .ref a0), (1, .int a1), (2, .int a2), (3, .int v1)]) dX12_tellsMost_97 (Nat.le_of_ble_eq_true rfl) rfl ?_
      refine G.sub (lv' := [(0, .ref a0), (1, .int a1), (2, .int a2), (3, .int v1), (4, .int (0 : Int32))]) [1, 2, 3, 4, 0] rfl ?_
      refine loopE (fun (s21 : Int32 × AM) => G yX12_tellsMost cX12_tellsMost 6 none 4 99 [(0, .ref a0), (1, .int a1), (2, .int a2), (3, .int v1), (4, .int s21.1)] [] s21.2 none o) (fun (e21 : AM) => G yX12_tellsMost cX12_tellsMost 6 none 4 172 [(0, .ref a0), (2, .int a2)] [] e21 none o) h ?_ ?_
      · intro e21 h
        show G yX12_tellsMost cX12_tellsMost 6 none 4 172 [(0, .ref a0), (2, .int a2)] [] e21 none o
        refine G.aload_n dX12_tellsMost_172 rfl rfl ?_
        refine G.getI dX12_tellsMost_173 fkX12_552 fr12_84 h (fun v37 h => ?_)
        refine G.if_ne 180 dX12_tellsMost_176 (by decide) h (fun c38 h => ?_) (fun c38 h => ?_)
        · exact G.vretW dX12_tellsMost_179 rfl h
        · refine G.aload_n dX12_tellsMost_180 rfl rfl ?_
          refine G.aload_n dX12_tellsMost_181 rfl rfl ?_
          refine G.getI dX12_tellsMost_182 fkX12_555 fr12_85 h (fun v39 h => ?_)
          refine G.iload_n dX12_tellsMost_185 rfl rfl ?_
          refine G.iconst (1 : Int32) dX12_tellsMost_186 ki_1 ?_
          refine G.aload_n dX12_tellsMost_187 rfl rfl ?_
          refine G.getI dX12_tellsMost_188 fkX12_558 fr12_86 h (fun v40 h => ?_)
          refine G.ishl dX12_tellsMost_191 ?_
          refine G.callVv (ci := 12) [.int v39, .int a2, .int ((1 : Int32) <<< (v40 &&& 31))] [] dX12_tellsMost_192 lkX12_447 okX12_learn rfl (fun v hv => C_X12_learn hv) (Nat.le_of_ble_eq_true rfl) rfl rfl (Nat.le_of_ble_eq_true rfl) h (fun M42 h => ?_)
          refine G.aload_n dX12_tellsMost_195 rfl rfl ?_
          refine G.dup dX12_tellsMost_196 rfl ?_
          refine G.getI dX12_tellsMost_197 fkX12_567 fr12_82 h (fun v43 h => ?_)
          refine G.aload_n dX12_tellsMost_200 rfl rfl ?_
          refine G.getI dX12_tellsMost_201 fkX12_561 fr12_87 h (fun v44 h => ?_)
          refine G.iadd dX12_tellsMost_204 ?_
          refine G.putI dX12_tellsMost_205 fkX12_567 nf12_82 ft12_82 h (fun M45 h => ?_)
          refine G.aload_n dX12_tellsMost_208 rfl rfl ?_
          refine G.dup dX12_tellsMost_209 rfl ?_
          refine G.getI dX12_tellsMost_210 fkX12_570 fr12_83 h (fun v46 h => ?_)
          refine G.iconst (1 : Int32) dX12_tellsMost_213 ki_1 ?_
          refine G.iadd dX12_tellsMost_214 ?_
          refine G.putI dX12_tellsMost_215 fkX12_570 nf12_83 ft12_83 h (fun M47 h => ?_)
          exact G.vretW dX12_tellsMost_218 rfl h
      · intro s21 x21 h K21
        show G yX12_tellsMost cX12_tellsMost 6 none 4 99 [(0, .ref a0), (1, .int a1), (2, .int a2), (3, .int v1), (4, .int s21.1)] [] s21.2 none o
        refine G.iload dX12_tellsMost_99 rfl ?_
        refine G.aload_n dX12_tellsMost_101 rfl rfl ?_
        refine G.bipush (7 : Int32) dX12_tellsMost_102 kb_7 ?_
        refine G.callVi (ci := 12) [.int (7 : Int32)] [.int s21.1] dX12_tellsMost_104 lkX12_383 okX12_has rfl (fun v hv => C_X12_has hv) (Nat.le_of_ble_eq_true rfl) rfl rfl (Nat.le_of_ble_eq_true rfl) h (fun v22 h => ?_)
        refine G.icmp_ge 172 dX12_tellsMost_107 (by decide) h (fun c23 h => ?_) (fun c23 h => ?_)
        · refine G.sub (lv' := [(0, .ref a0), (2, .int a2)]) [0, 2] rfl ?_
          have h := leafR' h K21
          exact h
        · refine G.aload_n dX12_tellsMost_110 rfl rfl ?_
          refine G.getR dX12_tellsMost_111 fkX12_97 fr12_40 h (fun v24 h => ?_)
          refine G.bipush (6 : Int32) dX12_tellsMost_114 kb_6 ?_
          refine G.aload_n dX12_tellsMost_116 rfl rfl ?_
          refine G.getI dX12_tellsMost_117 fkX12_290 fr12_18 h (fun v25 h => ?_)
          refine G.imul dX12_tellsMost_120 ?_
          refine G.iload dX12_tellsMost_121 rfl ?_
          refine G.iadd dX12_tellsMost_123 ?_
          refine G.iald dX12_tellsMost_124 h (fun v26 h => ?_)
          refine G.istore (lv' := [(5, .int v26), (0, .ref a0), (1, .int a1), (2, .int a2), (3, .int v1), (4, .int s21.1)]) dX12_tellsMost_125 (Nat.le_of_ble_eq_true rfl) rfl ?_
          refine G.aload_n dX12_tellsMost_127 rfl rfl ?_
          refine G.iload_n dX12_tellsMost_128 rfl rfl ?_
          refine G.iload_n dX12_tellsMost_129 rfl rfl ?_
          refine G.iload dX12_tellsMost_130 rfl ?_
          refine G.callVi (ci := 12) [.int a1, .int a2, .int v26] [] dX12_tellsMost_132 lkX12_444 okX12_knowsIt rfl (fun v hv => C_X12_knowsIt hv) (Nat.le_of_ble_eq_true rfl) rfl rfl (Nat.le_of_ble_eq_true rfl) h (fun v27 h => ?_)
          refine jn_elim (fun j29 => ∀ (M28 : AM), j29 M28 = some x21 → G yX12_tellsMost cX12_tellsMost 6 none 4 166 [(0, .ref a0), (1, .int a1), (2, .int a2), (3, .int v1), (4, .int s21.1)] [] M28 none o) h ?_ ?_
          · intro M28 h
            refine G.iinc s21.1 (w := (s21.1 + (1 : Int32))) (lv' := [(4, .int (s21.1 + (1 : Int32))), (0, .ref a0), (1, .int a1), (2, .int a2), (3, .int v1)]) dX12_tellsMost_166 rfl rfl (Nat.le_of_ble_eq_true rfl) rfl ?_
            refine G.goto 99 dX12_tellsMost_169 (by decide) ?_
            refine G.sub (lv' := [(0, .ref a0), (1, .int a1), (2, .int a2), (3, .int v1), (4, .int (s21.1 + (1 : Int32)))]) [1, 2, 3, 4, 0] rfl ?_
            have h := leafL' h K21
            exact h
          · intro j29 Jj29 h
            refine G.if_eq 166 dX12_tellsMost_135 (by decide) h (fun c30 h => ?_) (fun c30 h => ?_)
            · refine G.sub (lv' := [(0, .ref a0), (1, .int a1), (2, .int a2), (3, .int v1), (4, .int s21.1)]) [1, 2, 3, 4, 5] rfl ?_
              exact Jj29 _ h
            · refine G.aload_n dX12_tellsMost_138 rfl rfl ?_
              refine G.aload_n dX12_tellsMost_139 rfl rfl ?_
              refine G.iload_n dX12_tellsMost_140 rfl rfl ?_
              refine G.iload_n dX12_tellsMost_141 rfl rfl ?_
              refine G.callVi (ci := 12) [.int v1, .int a2] [.ref a0] dX12_tellsMost_142 lkX12_406 okX12_crowdAt rfl (fun v hv => C_X12_crowdAt hv) (Nat.le_of_ble_eq_true rfl) rfl rfl (Nat.le_of_ble_eq_true rfl) h (fun v31 h => ?_)
              refine G.iload_n dX12_tellsMost_145 rfl rfl ?_
              refine G.iload dX12_tellsMost_146 rfl ?_
              refine G.aload_n dX12_tellsMost_148 rfl rfl ?_
              refine G.getR dX12_tellsMost_149 fkX12_100 fr12_41 h (fun v32 h => ?_)
              refine G.bipush (6 : Int32) dX12_tellsMost_152 kb_6 ?_
              refine G.aload_n dX12_tellsMost_154 rfl rfl ?_
              refine G.getI dX12_tellsMost_155 fkX12_290 fr12_18 h (fun v33 h => ?_)
              refine G.imul dX12_tellsMost_158 ?_
              refine G.iload dX12_tellsMost_159 rfl ?_
              refine G.iadd dX12_tellsMost_161 ?_
              refine G.iald dX12_tellsMost_162 h (fun v34 h => ?_)
              refine G.callVv (ci := 12) [.int v31, .int a2, .int v26, .int v34] [] dX12_tellsMost_163 lkX12_564 okX12_offers rfl (fun v hv => C_X12_offers hv) (Nat.le_of_ble_eq_true rfl) rfl rfl (Nat.le_of_ble_eq_true rfl) h (fun M36 h => ?_)
              refine G.sub (lv' := [(0, .ref a0), (1, .int a1), (2, .int a2), (3, .int v1), (4, .int s21.1)]) [1, 2, 3, 4, 5] rfl ?_
              exact Jj29 _ h
    · intro s4 x4 h K4
      show G yX12_tellsMost cX12_tellsMost 6 none 4 20 [(0, .ref a0), (1, .int a1), (2, .int a2), (3, .int v1), (4, .int s4.1)] [] s4.2 none o
      refine G.iload dX12_tellsMost_20 rfl ?_
      refine G.aload_n dX12_tellsMost_22 rfl rfl ?_
      refine G.iconst (1 : Int32) dX12_tellsMost_23 ki_1 ?_
      refine G.callVi (ci := 12) [.int (1 : Int32)] [.int s4.1] dX12_tellsMost_24 lkX12_383 okX12_has rfl (fun v hv => C_X12_has hv) (Nat.le_of_ble_eq_true rfl) rfl rfl (Nat.le_of_ble_eq_true rfl) h (fun v5 h => ?_)
      refine G.icmp_ge 96 dX12_tellsMost_27 (by decide) h (fun c6 h => ?_) (fun c6 h => ?_)
      · refine G.sub (lv' := [(0, .ref a0), (1, .int a1), (2, .int a2), (3, .int v1)]) [0, 1, 2, 3] rfl ?_
        have h := leafR' h K4
        exact h
      · refine G.aload_n dX12_tellsMost_30 rfl rfl ?_
        refine G.iload_n dX12_tellsMost_31 rfl rfl ?_
        refine G.iload dX12_tellsMost_32 rfl ?_
        refine G.iload_n dX12_tellsMost_34 rfl rfl ?_
        refine G.iconst (0 : Int32) dX12_tellsMost_35 ki_0 ?_
        refine G.iconst (0 : Int32) dX12_tellsMost_36 ki_0 ?_
        refine G.callVi (ci := 12) [.int a1, .int s4.1, .int a2, .int (0 : Int32), .int (0 : Int32)] [] dX12_tellsMost_37 lkX12_427 okX12_mayBy rfl (fun v hv => C_X12_mayBy hv) (Nat.le_of_ble_eq_true rfl) rfl rfl (Nat.le_of_ble_eq_true rfl) h (fun v7 h => ?_)
        refine jn_elim (fun j9 => ∀ (M8 : AM), j9 M8 = some x4 → G yX12_tellsMost cX12_tellsMost 6 none 4 90 [(0, .ref a0), (1, .int a1), (2, .int a2), (3, .int v1), (4, .int s4.1)] [] M8 none o) h ?_ ?_
        · intro M8 h
          refine G.iinc s4.1 (w := (s4.1 + (1 : Int32))) (lv' := [(4, .int (s4.1 + (1 : Int32))), (0, .ref a0), (1, .int a1), (2, .int a2), (3, .int v1)]) dX12_tellsMost_90 rfl rfl (Nat.le_of_ble_eq_true rfl) rfl ?_
          refine G.goto 20 dX12_tellsMost_93 (by decide) ?_
          refine G.sub (lv' := [(0, .ref a0), (1, .int a1), (2, .int a2), (3, .int v1), (4, .int (s4.1 + (1 : Int32)))]) [1, 2, 3, 4, 0] rfl ?_
          have h := leafL' h K4
          exact h
        · intro j9 Jj9 h
          refine G.if_ne 46 dX12_tellsMost_40 (by decide) h (fun c10 h => ?_) (fun c10 h => ?_)
          · refine G.goto 90 dX12_tellsMost_43 (by decide) ?_
            refine G.sub (lv' := [(0, .ref a0), (1, .int a1), (2, .int a2), (3, .int v1), (4, .int s4.1)]) [0, 1, 2, 3, 4] rfl ?_
            exact Jj9 _ h
          · refine G.iconst (0 : Int32) dX12_tellsMost_46 ki_0 ?_
            refine G.istore (lv' := [(5, .int (0 : Int32)), (0, .ref a0), (1, .int a1), (2, .int a2), (3, .int v1), (4, .int s4.1)]) dX12_tellsMost_47 (Nat.le_of_ble_eq_true rfl) rfl ?_
            refine G.sub (lv' := [(0, .ref a0), (1, .int a1), (2, .int a2), (3, .int v1), (4, .int s4.1), (5, .int (0 : Int32))]) [1, 2, 3, 4, 5, 0] rfl ?_
            refine loopE (fun (s11 : Int32 × AM) => G yX12_tellsMost cX12_tellsMost 6 none 4 49 [(0, .ref a0), (1, .int a1), (2, .int a2), (3, .int v1), (4, .int s4.1), (5, .int s11.1)] [] s11.2 none o) (fun (e11 : AM) => G yX12_tellsMost cX12_tellsMost 6 none 4 90 [(0, .ref a0), (1, .int a1), (2, .int a2), (3, .int v1), (4, .int s4.1)] [] e11 none o) h ?_ ?_
            · intro e11 h
              show G yX12_tellsMost cX12_tellsMost 6 none 4 90 [(0, .ref a0), (1, .int a1), (2, .int a2), (3, .int v1), (4, .int s4.1)] [] e11 none o
              refine G.sub (lv' := [(0, .ref a0), (1, .int a1), (2, .int a2), (3, .int v1), (4, .int s4.1)]) [0, 1, 2, 3, 4] rfl ?_
              exact Jj9 _ h
            · intro s11 x11 h K11
              show G yX12_tellsMost cX12_tellsMost 6 none 4 49 [(0, .ref a0), (1, .int a1), (2, .int a2), (3, .int v1), (4, .int s4.1), (5, .int s11.1)] [] s11.2 none o
              refine G.iload dX12_tellsMost_49 rfl ?_
              refine G.aload_n dX12_tellsMost_51 rfl rfl ?_
              refine G.iconst (2 : Int32) dX12_tellsMost_52 ki_2 ?_
              refine G.callVi (ci := 12) [.int (2 : Int32)] [.int s11.1] dX12_tellsMost_53 lkX12_383 okX12_has rfl (fun v hv => C_X12_has hv) (Nat.le_of_ble_eq_true rfl) rfl rfl (Nat.le_of_ble_eq_true rfl) h (fun v12 h => ?_)
              refine G.icmp_ge 90 dX12_tellsMost_56 (by decide) h (fun c13 h => ?_) (fun c13 h => ?_)
              · refine G.sub (lv' := [(0, .ref a0), (1, .int a1), (2, .int a2), (3, .int v1), (4, .int s4.1)]) [0, 1, 2, 3, 4] rfl ?_
                have h := leafR' h K11
                exact h
              · refine G.aload_n dX12_tellsMost_59 rfl rfl ?_
                refine G.iload_n dX12_tellsMost_60 rfl rfl ?_
                refine G.iload_n dX12_tellsMost_61 rfl rfl ?_
                refine G.iload dX12_tellsMost_62 rfl ?_
                refine G.callVi (ci := 12) [.int a1, .int a2, .int s11.1] [] dX12_tellsMost_64 lkX12_444 okX12_knowsIt rfl (fun v hv => C_X12_knowsIt hv) (Nat.le_of_ble_eq_true rfl) rfl rfl (Nat.le_of_ble_eq_true rfl) h (fun v14 h => ?_)
                refine jn_elim (fun j16 => ∀ (M15 : AM), j16 M15 = some x11 → G yX12_tellsMost cX12_tellsMost 6 none 4 84 [(0, .ref a0), (1, .int a1), (2, .int a2), (3, .int v1), (4, .int s4.1), (5, .int s11.1)] [] M15 none o) h ?_ ?_
                · intro M15 h
                  refine G.iinc s11.1 (w := (s11.1 + (1 : Int32))) (lv' := [(5, .int (s11.1 + (1 : Int32))), (0, .ref a0), (1, .int a1), (2, .int a2), (3, .int v1), (4, .int s4.1)]) dX12_tellsMost_84 rfl rfl (Nat.le_of_ble_eq_true rfl) rfl ?_
                  refine G.goto 49 dX12_tellsMost_87 (by decide) ?_
                  refine G.sub (lv' := [(0, .ref a0), (1, .int a1), (2, .int a2), (3, .int v1), (4, .int s4.1), (5, .int (s11.1 + (1 : Int32)))]) [1, 2, 3, 4, 5, 0] rfl ?_
                  have h := leafL' h K11
                  exact h
                · intro j16 Jj16 h
                  refine G.if_eq 84 dX12_tellsMost_67 (by decide) h (fun c17 h => ?_) (fun c17 h => ?_)
                  · refine G.sub (lv' := [(0, .ref a0), (1, .int a1), (2, .int a2), (3, .int v1), (4, .int s4.1), (5, .int s11.1)]) [0, 1, 2, 3, 4, 5] rfl ?_
                    exact Jj16 _ h
                  · refine G.aload_n dX12_tellsMost_70 rfl rfl ?_
                    refine G.aload_n dX12_tellsMost_71 rfl rfl ?_
                    refine G.iload_n dX12_tellsMost_72 rfl rfl ?_
                    refine G.iload_n dX12_tellsMost_73 rfl rfl ?_
                    refine G.callVi (ci := 12) [.int v1, .int a2] [.ref a0] dX12_tellsMost_74 lkX12_424 okX12_earshotOf rfl (fun v hv => C_X12_earshotOf hv) (Nat.le_of_ble_eq_true rfl) rfl rfl (Nat.le_of_ble_eq_true rfl) h (fun v18 h => ?_)
                    refine G.iload_n dX12_tellsMost_77 rfl rfl ?_
                    refine G.iload dX12_tellsMost_78 rfl ?_
                    refine G.iconst (1 : Int32) dX12_tellsMost_80 ki_1 ?_
                    refine G.callVv (ci := 12) [.int v18, .int a2, .int s11.1, .int (1 : Int32)] [] dX12_tellsMost_81 lkX12_564 okX12_offers rfl (fun v hv => C_X12_offers hv) (Nat.le_of_ble_eq_true rfl) rfl rfl (Nat.le_of_ble_eq_true rfl) h (fun M20 h => ?_)
                    refine G.sub (lv' := [(0, .ref a0), (1, .int a1), (2, .int a2), (3, .int v1), (4, .int s4.1), (5, .int s11.1)]) [0, 1, 2, 3, 4, 5] rfl ?_
                    exact Jj16 _ h
  · exact G.vretW dX12_tellsMost_11 rfl h
-- OnlyUpwardModel.rules()V
set_option maxRecDepth 100000 in
set_option maxHeartbeats 4000000 in
def F_X12_rules (n : Nat) (M : AM) (a0 : Nat) : Option AM :=
  (pI 12 61 M a0 (0 : Int32)).bind fun M1 => (rcv 12 M1 a0 (F_X12_startsKnowing n M1 a0)).bind fun M3 => (pI 12 82 M3 a0 (0 : Int32)).bind fun M4 => (pI 12 83 M4 a0 (0 : Int32)).bind fun M5 => (iter (fun (s6 : Int32 × AM) => if (24 : Int32) ≤ s6.1 then some (.inr s6.2) else (iter (fun (s8 : Int32 × AM) => (rcv 12 s8.2 a0 (F_X12_has n s8.2 a0 (1 : Int32))).bind fun v9 => if v9 ≤ s8.1 then some (.inr s8.2) else (gR 12 68 s8.2 a0).bind fun v11 => (rdI s8.2 v11 ((((10 : Int32) * s6.1) + (10 : Int32)) + s8.1)).bind fun v12 => (gR 12 68 s8.2 a0).bind fun v13 => (rdI s8.2 v13 (((10 : Int32) * s6.1) + s8.1)).bind fun v14 => (wrI s8.2 v11 ((((10 : Int32) * s6.1) + (10 : Int32)) + s8.1) (v12 ||| v14)).bind fun M15 => some (.inl ((s8.1 + (1 : Int32)), M15))) n ((0 : Int32), s6.2)).bind fun (e8 : AM) => (rcv 12 e8 a0 (F_X12_ranks n e8 a0 s6.1 (0 : Int32))).bind fun M17 => (iter (fun (s18 : Int32 × AM) => (rcv 12 s18.2 a0 (F_X12_has n s18.2 a0 (1 : Int32))).bind fun v19 => if v19 ≤ s18.1 then some (.inr s18.2) else (gR 12 81 s18.2 a0).bind fun v21 => (rdI s18.2 v21 s18.1).bind fun v22 => (rcv 12 s18.2 a0 (F_X12_tellsMost n s18.2 a0 v22 s6.1)).bind fun M24 => some (.inl ((s18.1 + (1 : Int32)), M24))) n ((0 : Int32), M17)).bind fun (e18 : AM) => some (.inl ((s6.1 + (1 : Int32)), e18))) n ((0 : Int32), M5)).bind fun (e6 : AM) => some e6
set_option maxRecDepth 100000 in
set_option maxHeartbeats 4000000 in
theorem C_X12_rules {n : Nat} {M : AM} {a0 : Nat} {o : AM} (h : F_X12_rules n M a0 = some o) : Cn yX12_rules cX12_rules 3 none 5 [.ref a0] M none o := by
  unfold F_X12_rules at h
  refine Cn.of rfl (Nat.le_of_ble_eq_true rfl) ?_
  show G yX12_rules cX12_rules 3 none 5 0 [(0, .ref a0)] [] M none o
  refine G.aload_n dX12_rules_0 rfl rfl ?_
  refine G.iconst (0 : Int32) dX12_rules_1 ki_0 ?_
  refine G.putI dX12_rules_2 fkX12_390 nf12_61 ft12_61 h (fun M1 h => ?_)
  refine G.aload_n dX12_rules_5 rfl rfl ?_
  refine G.callVv (ci := 12) [] [] dX12_rules_6 lkX12_454 okX12_startsKnowing rfl (fun v hv => C_X12_startsKnowing hv) (Nat.le_of_ble_eq_true rfl) rfl rfl (Nat.le_of_ble_eq_true rfl) h (fun M3 h => ?_)
  refine G.aload_n dX12_rules_9 rfl rfl ?_
  refine G.iconst (0 : Int32) dX12_rules_10 ki_0 ?_
  refine G.putI dX12_rules_11 fkX12_567 nf12_82 ft12_82 h (fun M4 h => ?_)
  refine G.aload_n dX12_rules_14 rfl rfl ?_
  refine G.iconst (0 : Int32) dX12_rules_15 ki_0 ?_
  refine G.putI dX12_rules_16 fkX12_570 nf12_83 ft12_83 h (fun M5 h => ?_)
  refine G.iconst (0 : Int32) dX12_rules_19 ki_0 ?_
  refine G.istore_n (lv' := [(1, .int (0 : Int32)), (0, .ref a0)]) dX12_rules_20 rfl (Nat.le_of_ble_eq_true rfl) rfl ?_
  refine G.sub (lv' := [(0, .ref a0), (1, .int (0 : Int32))]) [1, 0] rfl ?_
  refine loopE (fun (s6 : Int32 × AM) => G yX12_rules cX12_rules 3 none 5 21 [(0, .ref a0), (1, .int s6.1)] [] s6.2 none o) (fun (e6 : AM) => G yX12_rules cX12_rules 3 none 5 112 [] [] e6 none o) h ?_ ?_
  · intro e6 h
    show G yX12_rules cX12_rules 3 none 5 112 [] [] e6 none o
    exact G.vretW dX12_rules_112 rfl h
  · intro s6 x6 h K6
    show G yX12_rules cX12_rules 3 none 5 21 [(0, .ref a0), (1, .int s6.1)] [] s6.2 none o
    refine G.iload_n dX12_rules_21 rfl rfl ?_
    refine G.bipush (24 : Int32) dX12_rules_22 kb_24 ?_
    refine G.icmp_ge 112 dX12_rules_24 (by decide) h (fun c7 h => ?_) (fun c7 h => ?_)
    · refine G.sub (lv' := []) [] rfl ?_
      have h := leafR' h K6
      exact h
    · refine G.iconst (0 : Int32) dX12_rules_27 ki_0 ?_
      refine G.istore_n (lv' := [(2, .int (0 : Int32)), (0, .ref a0), (1, .int s6.1)]) dX12_rules_28 rfl (Nat.le_of_ble_eq_true rfl) rfl ?_
      refine G.sub (lv' := [(0, .ref a0), (1, .int s6.1), (2, .int (0 : Int32))]) [1, 2, 0] rfl ?_
      refine loopE (fun (s8 : Int32 × AM) => G yX12_rules cX12_rules 3 none 5 29 [(0, .ref a0), (1, .int s6.1), (2, .int s8.1)] [] s8.2 none o) (fun (e8 : AM) => G yX12_rules cX12_rules 3 none 5 72 [(0, .ref a0), (1, .int s6.1)] [] e8 none o) h ?_ ?_
      · intro e8 h
        show G yX12_rules cX12_rules 3 none 5 72 [(0, .ref a0), (1, .int s6.1)] [] e8 none o
        refine G.aload_n dX12_rules_72 rfl rfl ?_
        refine G.iload_n dX12_rules_73 rfl rfl ?_
        refine G.iconst (0 : Int32) dX12_rules_74 ki_0 ?_
        refine G.callVv (ci := 12) [.int s6.1, .int (0 : Int32)] [] dX12_rules_75 lkX12_545 okX12_ranks rfl (fun v hv => C_X12_ranks hv) (Nat.le_of_ble_eq_true rfl) rfl rfl (Nat.le_of_ble_eq_true rfl) h (fun M17 h => ?_)
        refine G.iconst (0 : Int32) dX12_rules_78 ki_0 ?_
        refine G.istore_n (lv' := [(2, .int (0 : Int32)), (0, .ref a0), (1, .int s6.1)]) dX12_rules_79 rfl (Nat.le_of_ble_eq_true rfl) rfl ?_
        refine G.sub (lv' := [(0, .ref a0), (1, .int s6.1), (2, .int (0 : Int32))]) [1, 2, 0] rfl ?_
        refine loopE (fun (s18 : Int32 × AM) => G yX12_rules cX12_rules 3 none 5 80 [(0, .ref a0), (1, .int s6.1), (2, .int s18.1)] [] s18.2 none o) (fun (e18 : AM) => G yX12_rules cX12_rules 3 none 5 106 [(0, .ref a0), (1, .int s6.1)] [] e18 none o) h ?_ ?_
        · intro e18 h
          show G yX12_rules cX12_rules 3 none 5 106 [(0, .ref a0), (1, .int s6.1)] [] e18 none o
          refine G.iinc s6.1 (w := (s6.1 + (1 : Int32))) (lv' := [(1, .int (s6.1 + (1 : Int32))), (0, .ref a0)]) dX12_rules_106 rfl rfl (Nat.le_of_ble_eq_true rfl) rfl ?_
          refine G.goto 21 dX12_rules_109 (by decide) ?_
          refine G.sub (lv' := [(0, .ref a0), (1, .int (s6.1 + (1 : Int32)))]) [1, 0] rfl ?_
          have h := leafL' h K6
          exact h
        · intro s18 x18 h K18
          show G yX12_rules cX12_rules 3 none 5 80 [(0, .ref a0), (1, .int s6.1), (2, .int s18.1)] [] s18.2 none o
          refine G.iload_n dX12_rules_80 rfl rfl ?_
          refine G.aload_n dX12_rules_81 rfl rfl ?_
          refine G.iconst (1 : Int32) dX12_rules_82 ki_1 ?_
          refine G.callVi (ci := 12) [.int (1 : Int32)] [.int s18.1] dX12_rules_83 lkX12_383 okX12_has rfl (fun v hv => C_X12_has hv) (Nat.le_of_ble_eq_true rfl) rfl rfl (Nat.le_of_ble_eq_true rfl) h (fun v19 h => ?_)
          refine G.icmp_ge 106 dX12_rules_86 (by decide) h (fun c20 h => ?_) (fun c20 h => ?_)
          · refine G.sub (lv' := [(0, .ref a0), (1, .int s6.1)]) [0, 1] rfl ?_
            have h := leafR' h K18
            exact h
          · refine G.aload_n dX12_rules_89 rfl rfl ?_
            refine G.aload_n dX12_rules_90 rfl rfl ?_
            refine G.getR dX12_rules_91 fkX12_197 fr12_81 h (fun v21 h => ?_)
            refine G.iload_n dX12_rules_94 rfl rfl ?_
            refine G.iald dX12_rules_95 h (fun v22 h => ?_)
            refine G.iload_n dX12_rules_96 rfl rfl ?_
            refine G.callVv (ci := 12) [.int v22, .int s6.1] [] dX12_rules_97 lkX12_573 okX12_tellsMost rfl (fun v hv => C_X12_tellsMost hv) (Nat.le_of_ble_eq_true rfl) rfl rfl (Nat.le_of_ble_eq_true rfl) h (fun M24 h => ?_)
            refine G.iinc s18.1 (w := (s18.1 + (1 : Int32))) (lv' := [(2, .int (s18.1 + (1 : Int32))), (0, .ref a0), (1, .int s6.1)]) dX12_rules_100 rfl rfl (Nat.le_of_ble_eq_true rfl) rfl ?_
            refine G.goto 80 dX12_rules_103 (by decide) ?_
            refine G.sub (lv' := [(0, .ref a0), (1, .int s6.1), (2, .int (s18.1 + (1 : Int32)))]) [1, 2, 0] rfl ?_
            have h := leafL' h K18
            exact h
      · intro s8 x8 h K8
        show G yX12_rules cX12_rules 3 none 5 29 [(0, .ref a0), (1, .int s6.1), (2, .int s8.1)] [] s8.2 none o
        refine G.iload_n dX12_rules_29 rfl rfl ?_
        refine G.aload_n dX12_rules_30 rfl rfl ?_
        refine G.iconst (1 : Int32) dX12_rules_31 ki_1 ?_
        refine G.callVi (ci := 12) [.int (1 : Int32)] [.int s8.1] dX12_rules_32 lkX12_383 okX12_has rfl (fun v hv => C_X12_has hv) (Nat.le_of_ble_eq_true rfl) rfl rfl (Nat.le_of_ble_eq_true rfl) h (fun v9 h => ?_)
        refine G.icmp_ge 72 dX12_rules_35 (by decide) h (fun c10 h => ?_) (fun c10 h => ?_)
        · refine G.sub (lv' := [(0, .ref a0), (1, .int s6.1)]) [0, 1] rfl ?_
          have h := leafR' h K8
          exact h
        · refine G.aload_n dX12_rules_38 rfl rfl ?_
          refine G.getR dX12_rules_39 fkX12_164 fr12_68 h (fun v11 h => ?_)
          refine G.bipush (10 : Int32) dX12_rules_42 kb_10 ?_
          refine G.iload_n dX12_rules_44 rfl rfl ?_
          refine G.imul dX12_rules_45 ?_
          refine G.bipush (10 : Int32) dX12_rules_46 kb_10 ?_
          refine G.iadd dX12_rules_48 ?_
          refine G.iload_n dX12_rules_49 rfl rfl ?_
          refine G.iadd dX12_rules_50 ?_
          refine G.dup2 dX12_rules_51 rfl rfl ?_
          refine G.iald dX12_rules_52 h (fun v12 h => ?_)
          refine G.aload_n dX12_rules_53 rfl rfl ?_
          refine G.getR dX12_rules_54 fkX12_164 fr12_68 h (fun v13 h => ?_)
          refine G.bipush (10 : Int32) dX12_rules_57 kb_10 ?_
          refine G.iload_n dX12_rules_59 rfl rfl ?_
          refine G.imul dX12_rules_60 ?_
          refine G.iload_n dX12_rules_61 rfl rfl ?_
          refine G.iadd dX12_rules_62 ?_
          refine G.iald dX12_rules_63 h (fun v14 h => ?_)
          refine G.ior dX12_rules_64 ?_
          refine G.iast dX12_rules_65 h (fun M15 h => ?_)
          refine G.iinc s8.1 (w := (s8.1 + (1 : Int32))) (lv' := [(2, .int (s8.1 + (1 : Int32))), (0, .ref a0), (1, .int s6.1)]) dX12_rules_66 rfl rfl (Nat.le_of_ble_eq_true rfl) rfl ?_
          refine G.goto 29 dX12_rules_69 (by decide) ?_
          refine G.sub (lv' := [(0, .ref a0), (1, .int s6.1), (2, .int (s8.1 + (1 : Int32)))]) [1, 2, 0] rfl ?_
          have h := leafL' h K8
          exact h
-- OnlyUpwardModel.rule(I)I
set_option maxRecDepth 100000 in
set_option maxHeartbeats 4000000 in
def F_X12_rule (n : Nat) (M : AM) (a0 : Nat) (a1 : Int32) : Option (Int32 × AM) :=
  (F_X12_in n M a1 (0 : Int32) (2 : Int32)).bind fun v1 => if v1 = 0 then some ((-1 : Int32), M) else (rcv 12 M a0 (F_X12_rules n M a0)).bind fun M4 => if a1 = 0 then (rcv 12 M4 a0 (F_X12_harmNow n M4 a0)).bind fun v6 => some (v6, M4) else if a1 = (1 : Int32) then (gI 12 82 M4 a0).bind fun v8 => some (v8, M4) else (gI 12 83 M4 a0).bind fun v9 => some (v9, M4)
set_option maxRecDepth 100000 in
set_option maxHeartbeats 4000000 in
theorem C_X12_rule {n : Nat} {M : AM} {a0 : Nat} {a1 : Int32} {o : (Int32 × AM)} (h : F_X12_rule n M a0 a1 = some o) : Cn yX12_rule cX12_rule 2 (some .int) 6 [.ref a0, .int a1] M (some (.int o.1)) o.2 := by
  unfold F_X12_rule at h
  refine Cn.of rfl (Nat.le_of_ble_eq_true rfl) ?_
  show G yX12_rule cX12_rule 2 (some .int) 6 0 [(0, .ref a0), (1, .int a1)] [] M (some (.int o.1)) o.2
  refine G.iload_n dX12_rule_0 rfl rfl ?_
  refine G.iconst (0 : Int32) dX12_rule_1 ki_0 ?_
  refine G.iconst (2 : Int32) dX12_rule_2 ki_2 ?_
  refine G.callSi [.int a1, .int (0 : Int32), .int (2 : Int32)] [] dX12_rule_3 lkX12_386 okX12_in (fun v hv => C_X12_in hv) (Nat.le_of_ble_eq_true rfl) rfl rfl (Nat.le_of_ble_eq_true rfl) h (fun v1 h => ?_)
  refine G.if_ne 11 dX12_rule_6 (by decide) h (fun c2 h => ?_) (fun c2 h => ?_)
  · refine G.iconst (-1 : Int32) dX12_rule_9 ki_m1 ?_
    exact G.iretW dX12_rule_10 rfl (rfl) h
  · refine G.aload_n dX12_rule_11 rfl rfl ?_
    refine G.callVv (ci := 12) [] [] dX12_rule_12 lkX12_576 okX12_rules rfl (fun v hv => C_X12_rules hv) (Nat.le_of_ble_eq_true rfl) rfl rfl (Nat.le_of_ble_eq_true rfl) h (fun M4 h => ?_)
    refine G.iload_n dX12_rule_15 rfl rfl ?_
    refine G.if_ne 26 dX12_rule_16 (by decide) h (fun c5 h => ?_) (fun c5 h => ?_)
    · refine G.aload_n dX12_rule_19 rfl rfl ?_
      refine G.callVi (ci := 12) [] [] dX12_rule_20 lkX12_535 okX12_harmNow rfl (fun v hv => C_X12_harmNow hv) (Nat.le_of_ble_eq_true rfl) rfl rfl (Nat.le_of_ble_eq_true rfl) h (fun v6 h => ?_)
      refine G.goto 42 dX12_rule_23 (by decide) ?_
      exact G.iretW dX12_rule_42 rfl (rfl) h
    · refine G.iload_n dX12_rule_26 rfl rfl ?_
      refine G.iconst (1 : Int32) dX12_rule_27 ki_1 ?_
      refine G.icmp_ne 38 dX12_rule_28 (by decide) h (fun c7 h => ?_) (fun c7 h => ?_)
      · refine G.aload_n dX12_rule_31 rfl rfl ?_
        refine G.getI dX12_rule_32 fkX12_567 fr12_82 h (fun v8 h => ?_)
        refine G.goto 42 dX12_rule_35 (by decide) ?_
        exact G.iretW dX12_rule_42 rfl (rfl) h
      · refine G.aload_n dX12_rule_38 rfl rfl ?_
        refine G.getI dX12_rule_39 fkX12_570 fr12_83 h (fun v9 h => ?_)
        exact G.iretW dX12_rule_42 rfl (rfl) h
-- OnlyUpwardModel.ruled(II)I
set_option maxRecDepth 100000 in
set_option maxHeartbeats 4000000 in
def F_X12_ruled (n : Nat) (M : AM) (a0 : Nat) (a1 : Int32) (a2 : Int32) : Option (Int32 × AM) :=
  (rcv 12 M a0 (F_X12_isPerson n M a0 a1)).bind fun v1 => if v1 = 0 then some ((-1 : Int32), M) else (F_X12_isEnd n M a2).bind fun v3 => if v3 = 0 then some ((-1 : Int32), M) else (rcv 12 M a0 (F_X12_rules n M a0)).bind fun M6 => (gR 12 68 M6 a0).bind fun v7 => (rdI M6 v7 (((10 : Int32) * a2) + a1)).bind fun v8 => some (v8, M6)
set_option maxRecDepth 100000 in
set_option maxHeartbeats 4000000 in
theorem C_X12_ruled {n : Nat} {M : AM} {a0 : Nat} {a1 : Int32} {a2 : Int32} {o : (Int32 × AM)} (h : F_X12_ruled n M a0 a1 a2 = some o) : Cn yX12_ruled cX12_ruled 3 (some .int) 6 [.ref a0, .int a1, .int a2] M (some (.int o.1)) o.2 := by
  unfold F_X12_ruled at h
  refine Cn.of rfl (Nat.le_of_ble_eq_true rfl) ?_
  show G yX12_ruled cX12_ruled 3 (some .int) 6 0 [(0, .ref a0), (1, .int a1), (2, .int a2)] [] M (some (.int o.1)) o.2
  refine G.aload_n dX12_ruled_0 rfl rfl ?_
  refine G.iload_n dX12_ruled_1 rfl rfl ?_
  refine G.callVi (ci := 12) [.int a1] [] dX12_ruled_2 lkX12_415 okX12_isPerson rfl (fun v hv => C_X12_isPerson hv) (Nat.le_of_ble_eq_true rfl) rfl rfl (Nat.le_of_ble_eq_true rfl) h (fun v1 h => ?_)
  refine G.if_eq 15 dX12_ruled_5 (by decide) h (fun c2 h => ?_) (fun c2 h => ?_)
  · refine G.iconst (-1 : Int32) dX12_ruled_15 ki_m1 ?_
    exact G.iretW dX12_ruled_16 rfl (rfl) h
  · refine G.iload_n dX12_ruled_8 rfl rfl ?_
    refine G.callSi [.int a2] [] dX12_ruled_9 lkX12_478 okX12_isEnd (fun v hv => C_X12_isEnd hv) (Nat.le_of_ble_eq_true rfl) rfl rfl (Nat.le_of_ble_eq_true rfl) h (fun v3 h => ?_)
    refine G.if_ne 17 dX12_ruled_12 (by decide) h (fun c4 h => ?_) (fun c4 h => ?_)
    · refine G.iconst (-1 : Int32) dX12_ruled_15 ki_m1 ?_
      exact G.iretW dX12_ruled_16 rfl (rfl) h
    · refine G.aload_n dX12_ruled_17 rfl rfl ?_
      refine G.callVv (ci := 12) [] [] dX12_ruled_18 lkX12_576 okX12_rules rfl (fun v hv => C_X12_rules hv) (Nat.le_of_ble_eq_true rfl) rfl rfl (Nat.le_of_ble_eq_true rfl) h (fun M6 h => ?_)
      refine G.aload_n dX12_ruled_21 rfl rfl ?_
      refine G.getR dX12_ruled_22 fkX12_164 fr12_68 h (fun v7 h => ?_)
      refine G.bipush (10 : Int32) dX12_ruled_25 kb_10 ?_
      refine G.iload_n dX12_ruled_27 rfl rfl ?_
      refine G.imul dX12_ruled_28 ?_
      refine G.iload_n dX12_ruled_29 rfl rfl ?_
      refine G.iadd dX12_ruled_30 ?_
      refine G.iald dX12_ruled_31 h (fun v8 h => ?_)
      exact G.iretW dX12_ruled_32 rfl (rfl) h
-- OnlyUpwardModel.goesByLots(II)V
set_option maxRecDepth 100000 in
set_option maxHeartbeats 4000000 in
def F_X12_goesByLots (n : Nat) (M : AM) (a0 : Nat) (a1 : Int32) (a2 : Int32) : Option AM :=
  (pI 12 72 M a0 a1).bind fun M1 => (pI 12 73 M1 a0 a2).bind fun M2 => (rcv 12 M2 a0 (F_X12_goes n M2 a0)).bind fun M4 => (pI 12 73 M4 a0 (-1 : Int32)).bind fun M5 => some M5
set_option maxRecDepth 100000 in
set_option maxHeartbeats 4000000 in
theorem C_X12_goesByLots {n : Nat} {M : AM} {a0 : Nat} {a1 : Int32} {a2 : Int32} {o : AM} (h : F_X12_goesByLots n M a0 a1 a2 = some o) : Cn yX12_goesByLots cX12_goesByLots 3 none 6 [.ref a0, .int a1, .int a2] M none o := by
  unfold F_X12_goesByLots at h
  refine Cn.of rfl (Nat.le_of_ble_eq_true rfl) ?_
  show G yX12_goesByLots cX12_goesByLots 3 none 6 0 [(0, .ref a0), (1, .int a1), (2, .int a2)] [] M none o
  refine G.aload_n dX12_goesByLots_0 rfl rfl ?_
  refine G.iload_n dX12_goesByLots_1 rfl rfl ?_
  refine G.putI dX12_goesByLots_2 fkX12_457 nf12_72 ft12_72 h (fun M1 h => ?_)
  refine G.aload_n dX12_goesByLots_5 rfl rfl ?_
  refine G.iload_n dX12_goesByLots_6 rfl rfl ?_
  refine G.putI dX12_goesByLots_7 fkX12_176 nf12_73 ft12_73 h (fun M2 h => ?_)
  refine G.aload_n dX12_goesByLots_10 rfl rfl ?_
  refine G.callVv (ci := 12) [] [] dX12_goesByLots_11 lkX12_469 okX12_goes rfl (fun v hv => C_X12_goes hv) (Nat.le_of_ble_eq_true rfl) rfl rfl (Nat.le_of_ble_eq_true rfl) h (fun M4 h => ?_)
  refine G.aload_n dX12_goesByLots_14 rfl rfl ?_
  refine G.iconst (-1 : Int32) dX12_goesByLots_15 ki_m1 ?_
  refine G.putI dX12_goesByLots_16 fkX12_176 nf12_73 ft12_73 h (fun M5 h => ?_)
  exact G.vretW dX12_goesByLots_19 rfl h
-- OnlyUpwardModel.goneNow()I
set_option maxRecDepth 100000 in
set_option maxHeartbeats 4000000 in
def F_X12_goneNow (n : Nat) (M : AM) (a0 : Nat) : Option Int32 :=
  (iter (fun (s1 : Int32 × Int32 × Int32) => (rcv 12 M a0 (F_X12_has n M a0 (1 : Int32))).bind fun v2 => if v2 ≤ s1.2.2 then some (.inr (s1.1, s1.2.1)) else (gR 12 68 M a0).bind fun v4 => (rdI M v4 ((240 : Int32) + s1.2.2)).bind fun v5 => (rcv 12 M a0 (F_X12_isDead n M a0 s1.2.2)).bind fun v6 => jn (fun (u7 : Int32) => some (.inl ((s1.1 ||| v5), u7, (s1.2.2 + (1 : Int32))))) fun j8 => if v6 = 0 then (gR 12 68 M a0).bind fun v10 => (rdI M v10 ((240 : Int32) + s1.2.2)).bind fun v11 => j8 (s1.2.1 ||| v11) else j8 s1.2.1) n ((0 : Int32), (0 : Int32), (0 : Int32))).bind fun (e1 : Int32 × Int32) => some (e1.1 &&& (e1.2 ^^^ (-1 : Int32)))
set_option maxRecDepth 100000 in
set_option maxHeartbeats 4000000 in
theorem C_X12_goneNow {n : Nat} {M : AM} {a0 : Nat} {o : Int32} (h : F_X12_goneNow n M a0 = some o) : Cn yX12_goneNow cX12_goneNow 4 (some .int) 1 [.ref a0] M (some (.int o)) M := by
  unfold F_X12_goneNow at h
  refine Cn.of rfl (Nat.le_of_ble_eq_true rfl) ?_
  show G yX12_goneNow cX12_goneNow 4 (some .int) 1 0 [(0, .ref a0)] [] M (some (.int o)) M
  refine G.iconst (0 : Int32) dX12_goneNow_0 ki_0 ?_
  refine G.istore_n (lv' := [(1, .int (0 : Int32)), (0, .ref a0)]) dX12_goneNow_1 rfl (Nat.le_of_ble_eq_true rfl) rfl ?_
  refine G.iconst (0 : Int32) dX12_goneNow_2 ki_0 ?_
  refine G.istore_n (lv' := [(2, .int (0 : Int32)), (1, .int (0 : Int32)), (0, .ref a0)]) dX12_goneNow_3 rfl (Nat.le_of_ble_eq_true rfl) rfl ?_
  refine G.iconst (0 : Int32) dX12_goneNow_4 ki_0 ?_
  refine G.istore_n (lv' := [(3, .int (0 : Int32)), (2, .int (0 : Int32)), (1, .int (0 : Int32)), (0, .ref a0)]) dX12_goneNow_5 rfl (Nat.le_of_ble_eq_true rfl) rfl ?_
  refine G.sub (lv' := [(0, .ref a0), (1, .int (0 : Int32)), (2, .int (0 : Int32)), (3, .int (0 : Int32))]) [3, 2, 1, 0] rfl ?_
  refine loopE (fun (s1 : Int32 × Int32 × Int32) => G yX12_goneNow cX12_goneNow 4 (some .int) 1 6 [(0, .ref a0), (1, .int s1.1), (2, .int s1.2.1), (3, .int s1.2.2)] [] M (some (.int o)) M) (fun (e1 : Int32 × Int32) => G yX12_goneNow cX12_goneNow 4 (some .int) 1 55 [(1, .int e1.1), (2, .int e1.2)] [] M (some (.int o)) M) h ?_ ?_
  · intro e1 h
    show G yX12_goneNow cX12_goneNow 4 (some .int) 1 55 [(1, .int e1.1), (2, .int e1.2)] [] M (some (.int o)) M
    refine G.iload_n dX12_goneNow_55 rfl rfl ?_
    refine G.iload_n dX12_goneNow_56 rfl rfl ?_
    refine G.iconst (-1 : Int32) dX12_goneNow_57 ki_m1 ?_
    refine G.ixor dX12_goneNow_58 ?_
    refine G.iand dX12_goneNow_59 ?_
    exact G.iret dX12_goneNow_60 rfl (rfl) h
  · intro s1 x1 h K1
    show G yX12_goneNow cX12_goneNow 4 (some .int) 1 6 [(0, .ref a0), (1, .int s1.1), (2, .int s1.2.1), (3, .int s1.2.2)] [] M (some (.int o)) M
    refine G.iload_n dX12_goneNow_6 rfl rfl ?_
    refine G.aload_n dX12_goneNow_7 rfl rfl ?_
    refine G.iconst (1 : Int32) dX12_goneNow_8 ki_1 ?_
    refine G.callVi (ci := 12) [.int (1 : Int32)] [.int s1.2.2] dX12_goneNow_9 lkX12_383 okX12_has rfl (fun v hv => C_X12_has hv) (Nat.le_of_ble_eq_true rfl) rfl rfl (Nat.le_of_ble_eq_true rfl) h (fun v2 h => ?_)
    refine G.icmp_ge 55 dX12_goneNow_12 (by decide) h (fun c3 h => ?_) (fun c3 h => ?_)
    · refine G.sub (lv' := [(1, .int s1.1), (2, .int s1.2.1)]) [1, 2] rfl ?_
      have h := leafR' h K1
      exact h
    · refine G.iload_n dX12_goneNow_15 rfl rfl ?_
      refine G.aload_n dX12_goneNow_16 rfl rfl ?_
      refine G.getR dX12_goneNow_17 fkX12_164 fr12_68 h (fun v4 h => ?_)
      refine G.sipush (240 : Int32) dX12_goneNow_20 ks_240 ?_
      refine G.iload_n dX12_goneNow_23 rfl rfl ?_
      refine G.iadd dX12_goneNow_24 ?_
      refine G.iald dX12_goneNow_25 h (fun v5 h => ?_)
      refine G.ior dX12_goneNow_26 ?_
      refine G.istore_n (lv' := [(1, .int (s1.1 ||| v5)), (0, .ref a0), (2, .int s1.2.1), (3, .int s1.2.2)]) dX12_goneNow_27 rfl (Nat.le_of_ble_eq_true rfl) rfl ?_
      refine G.aload_n dX12_goneNow_28 rfl rfl ?_
      refine G.iload_n dX12_goneNow_29 rfl rfl ?_
      refine G.callVi (ci := 12) [.int s1.2.2] [] dX12_goneNow_30 lkX12_393 okX12_isDead rfl (fun v hv => C_X12_isDead hv) (Nat.le_of_ble_eq_true rfl) rfl rfl (Nat.le_of_ble_eq_true rfl) h (fun v6 h => ?_)
      refine jn_elim (fun j8 => ∀ (u7 : Int32), j8 u7 = some x1 → G yX12_goneNow cX12_goneNow 4 (some .int) 1 49 [(0, .ref a0), (1, .int (s1.1 ||| v5)), (2, .int u7), (3, .int s1.2.2)] [] M (some (.int o)) M) h ?_ ?_
      · intro u7 h
        refine G.iinc s1.2.2 (w := (s1.2.2 + (1 : Int32))) (lv' := [(3, .int (s1.2.2 + (1 : Int32))), (0, .ref a0), (1, .int (s1.1 ||| v5)), (2, .int u7)]) dX12_goneNow_49 rfl rfl (Nat.le_of_ble_eq_true rfl) rfl ?_
        refine G.goto 6 dX12_goneNow_52 (by decide) ?_
        refine G.sub (lv' := [(0, .ref a0), (1, .int (s1.1 ||| v5)), (2, .int u7), (3, .int (s1.2.2 + (1 : Int32)))]) [1, 2, 3, 0] rfl ?_
        have h := leafL' h K1
        exact h
      · intro j8 Jj8 h
        refine G.if_ne 49 dX12_goneNow_33 (by decide) h (fun c9 h => ?_) (fun c9 h => ?_)
        · refine G.iload_n dX12_goneNow_36 rfl rfl ?_
          refine G.aload_n dX12_goneNow_37 rfl rfl ?_
          refine G.getR dX12_goneNow_38 fkX12_164 fr12_68 h (fun v10 h => ?_)
          refine G.sipush (240 : Int32) dX12_goneNow_41 ks_240 ?_
          refine G.iload_n dX12_goneNow_44 rfl rfl ?_
          refine G.iadd dX12_goneNow_45 ?_
          refine G.iald dX12_goneNow_46 h (fun v11 h => ?_)
          refine G.ior dX12_goneNow_47 ?_
          refine G.istore_n (lv' := [(2, .int (s1.2.1 ||| v11)), (1, .int (s1.1 ||| v5)), (0, .ref a0), (3, .int s1.2.2)]) dX12_goneNow_48 rfl (Nat.le_of_ble_eq_true rfl) rfl ?_
          refine G.sub (lv' := [(0, .ref a0), (1, .int (s1.1 ||| v5)), (2, .int (s1.2.1 ||| v11)), (3, .int s1.2.2)]) [2, 1, 0, 3] rfl ?_
          exact Jj8 _ h
        · refine G.sub (lv' := [(0, .ref a0), (1, .int (s1.1 ||| v5)), (2, .int s1.2.1), (3, .int s1.2.2)]) [1, 0, 2, 3] rfl ?_
          exact Jj8 _ h
-- OnlyUpwardModel.day(III)I
set_option maxRecDepth 100000 in
set_option maxHeartbeats 4000000 in
def F_X12_day (n : Nat) (M : AM) (a0 : Nat) (a1 : Int32) (a2 : Int32) (a3 : Int32) : Option (Int32 × AM) :=
  (F_X12_in n M a2 (0 : Int32) (100 : Int32)).bind fun v1 => if v1 = 0 then some ((-1 : Int32), M) else (F_X12_in n M a3 (0 : Int32) (3 : Int32)).bind fun v3 => if v3 = 0 then some ((-1 : Int32), M) else (rcv 12 M a0 (F_X12_goesByLots n M a0 a1 a2)).bind fun M6 => jn (fun (u7 : Int32) => (pI 12 61 M6 a0 (0 : Int32)).bind fun M8 => some (u7, M8)) fun j9 => if a3 = 0 then (rcv 12 M6 a0 (F_X12_has n M6 a0 (1 : Int32))).bind fun v11 => (gI 12 61 M6 a0).bind fun v12 => lets ((((1 : Int32) <<< (v11 &&& 31)) - (1 : Int32)) &&& (v12 ^^^ (-1 : Int32))) fun (w13 : Int32) => j9 w13 else if a3 = (1 : Int32) then (rcv 12 M6 a0 (F_X12_goneNow n M6 a0)).bind fun v15 => j9 v15 else if a3 = (2 : Int32) then (rcv 12 M6 a0 (F_X12_harmNow n M6 a0)).bind fun v17 => j9 v17 else (iter (fun (s18 : Int32 × Int32) => (gI 12 62 M6 a0).bind fun v19 => if v19 ≤ s18.2 then some (.inr s18.1) else (gR 12 69 M6 a0).bind fun v21 => (rdI M6 v21 s18.2).bind fun v22 => jn (fun (u23 : Int32) => some (.inl ((s18.1 + u23), (s18.2 + (1 : Int32))))) fun j24 => if v22 = 0 then j24 (1 : Int32) else j24 (0 : Int32)) n ((0 : Int32), (0 : Int32))).bind fun (e18 : Int32) => j9 e18
set_option maxRecDepth 100000 in
set_option maxHeartbeats 4000000 in
theorem C_X12_day {n : Nat} {M : AM} {a0 : Nat} {a1 : Int32} {a2 : Int32} {a3 : Int32} {o : (Int32 × AM)} (h : F_X12_day n M a0 a1 a2 a3 = some o) : Cn yX12_day cX12_day 6 (some .int) 7 [.ref a0, .int a1, .int a2, .int a3] M (some (.int o.1)) o.2 := by
  unfold F_X12_day at h
  refine Cn.of rfl (Nat.le_of_ble_eq_true rfl) ?_
  show G yX12_day cX12_day 6 (some .int) 7 0 [(0, .ref a0), (1, .int a1), (2, .int a2), (3, .int a3)] [] M (some (.int o.1)) o.2
  refine G.iload_n dX12_day_0 rfl rfl ?_
  refine G.iconst (0 : Int32) dX12_day_1 ki_0 ?_
  refine G.bipush (100 : Int32) dX12_day_2 kb_100 ?_
  refine G.callSi [.int a2, .int (0 : Int32), .int (100 : Int32)] [] dX12_day_4 lkX12_386 okX12_in (fun v hv => C_X12_in hv) (Nat.le_of_ble_eq_true rfl) rfl rfl (Nat.le_of_ble_eq_true rfl) h (fun v1 h => ?_)
  refine G.if_eq 19 dX12_day_7 (by decide) h (fun c2 h => ?_) (fun c2 h => ?_)
  · refine G.iconst (-1 : Int32) dX12_day_19 ki_m1 ?_
    exact G.iretW dX12_day_20 rfl (rfl) h
  · refine G.iload_n dX12_day_10 rfl rfl ?_
    refine G.iconst (0 : Int32) dX12_day_11 ki_0 ?_
    refine G.iconst (3 : Int32) dX12_day_12 ki_3 ?_
    refine G.callSi [.int a3, .int (0 : Int32), .int (3 : Int32)] [] dX12_day_13 lkX12_386 okX12_in (fun v hv => C_X12_in hv) (Nat.le_of_ble_eq_true rfl) rfl rfl (Nat.le_of_ble_eq_true rfl) h (fun v3 h => ?_)
    refine G.if_ne 21 dX12_day_16 (by decide) h (fun c4 h => ?_) (fun c4 h => ?_)
    · refine G.iconst (-1 : Int32) dX12_day_19 ki_m1 ?_
      exact G.iretW dX12_day_20 rfl (rfl) h
    · refine G.aload_n dX12_day_21 rfl rfl ?_
      refine G.iload_n dX12_day_22 rfl rfl ?_
      refine G.iload_n dX12_day_23 rfl rfl ?_
      refine G.callVv (ci := 12) [.int a1, .int a2] [] dX12_day_24 lkX12_579 okX12_goesByLots rfl (fun v hv => C_X12_goesByLots hv) (Nat.le_of_ble_eq_true rfl) rfl rfl (Nat.le_of_ble_eq_true rfl) h (fun M6 h => ?_)
      refine G.iconst (0 : Int32) dX12_day_27 ki_0 ?_
      refine G.istore (lv' := [(4, .int (0 : Int32)), (0, .ref a0), (1, .int a1), (2, .int a2), (3, .int a3)]) dX12_day_28 (Nat.le_of_ble_eq_true rfl) rfl ?_
      refine G.iload_n dX12_day_30 rfl rfl ?_
      refine jn_elim (fun j9 => ∀ (u7 : Int32), j9 u7 = some o → G yX12_day cX12_day 6 (some .int) 7 121 [(0, .ref a0), (4, .int u7)] [] M6 (some (.int o.1)) o.2) h ?_ ?_
      · intro u7 h
        refine G.aload_n dX12_day_121 rfl rfl ?_
        refine G.iconst (0 : Int32) dX12_day_122 ki_0 ?_
        refine G.putI dX12_day_123 fkX12_390 nf12_61 ft12_61 h (fun M8 h => ?_)
        refine G.iload dX12_day_126 rfl ?_
        exact G.iretW dX12_day_128 rfl (rfl) h
      · intro j9 Jj9 h
        refine G.if_ne 55 dX12_day_31 (by decide) h (fun c10 h => ?_) (fun c10 h => ?_)
        · refine G.iconst (1 : Int32) dX12_day_34 ki_1 ?_
          refine G.aload_n dX12_day_35 rfl rfl ?_
          refine G.iconst (1 : Int32) dX12_day_36 ki_1 ?_
          refine G.callVi (ci := 12) [.int (1 : Int32)] [.int (1 : Int32)] dX12_day_37 lkX12_383 okX12_has rfl (fun v hv => C_X12_has hv) (Nat.le_of_ble_eq_true rfl) rfl rfl (Nat.le_of_ble_eq_true rfl) h (fun v11 h => ?_)
          refine G.ishl dX12_day_40 ?_
          refine G.iconst (1 : Int32) dX12_day_41 ki_1 ?_
          refine G.isub dX12_day_42 ?_
          refine G.aload_n dX12_day_43 rfl rfl ?_
          refine G.getI dX12_day_44 fkX12_390 fr12_61 h (fun v12 h => ?_)
          refine G.iconst (-1 : Int32) dX12_day_47 ki_m1 ?_
          refine G.ixor dX12_day_48 ?_
          refine G.iand dX12_day_49 ?_
          refine lets_elim h (fun w13 ew13 h => ?_)
          rw [← ew13]
          refine G.istore (lv' := [(4, .int w13), (0, .ref a0), (1, .int a1), (2, .int a2), (3, .int a3)]) dX12_day_50 (Nat.le_of_ble_eq_true rfl) rfl ?_
          refine G.goto 121 dX12_day_52 (by decide) ?_
          refine G.sub (lv' := [(0, .ref a0), (4, .int w13)]) [1, 0] rfl ?_
          exact Jj9 _ h
        · refine G.iload_n dX12_day_55 rfl rfl ?_
          refine G.iconst (1 : Int32) dX12_day_56 ki_1 ?_
          refine G.icmp_ne 69 dX12_day_57 (by decide) h (fun c14 h => ?_) (fun c14 h => ?_)
          · refine G.aload_n dX12_day_60 rfl rfl ?_
            refine G.callVi (ci := 12) [] [] dX12_day_61 lkX12_582 okX12_goneNow rfl (fun v hv => C_X12_goneNow hv) (Nat.le_of_ble_eq_true rfl) rfl rfl (Nat.le_of_ble_eq_true rfl) h (fun v15 h => ?_)
            refine G.istore (lv' := [(4, .int v15), (0, .ref a0), (1, .int a1), (2, .int a2), (3, .int a3)]) dX12_day_64 (Nat.le_of_ble_eq_true rfl) rfl ?_
            refine G.goto 121 dX12_day_66 (by decide) ?_
            refine G.sub (lv' := [(0, .ref a0), (4, .int v15)]) [1, 0] rfl ?_
            exact Jj9 _ h
          · refine G.iload_n dX12_day_69 rfl rfl ?_
            refine G.iconst (2 : Int32) dX12_day_70 ki_2 ?_
            refine G.icmp_ne 83 dX12_day_71 (by decide) h (fun c16 h => ?_) (fun c16 h => ?_)
            · refine G.aload_n dX12_day_74 rfl rfl ?_
              refine G.callVi (ci := 12) [] [] dX12_day_75 lkX12_535 okX12_harmNow rfl (fun v hv => C_X12_harmNow hv) (Nat.le_of_ble_eq_true rfl) rfl rfl (Nat.le_of_ble_eq_true rfl) h (fun v17 h => ?_)
              refine G.istore (lv' := [(4, .int v17), (0, .ref a0), (1, .int a1), (2, .int a2), (3, .int a3)]) dX12_day_78 (Nat.le_of_ble_eq_true rfl) rfl ?_
              refine G.goto 121 dX12_day_80 (by decide) ?_
              refine G.sub (lv' := [(0, .ref a0), (4, .int v17)]) [1, 0] rfl ?_
              exact Jj9 _ h
            · refine G.iconst (0 : Int32) dX12_day_83 ki_0 ?_
              refine G.istore (lv' := [(5, .int (0 : Int32)), (4, .int (0 : Int32)), (0, .ref a0), (1, .int a1), (2, .int a2), (3, .int a3)]) dX12_day_84 (Nat.le_of_ble_eq_true rfl) rfl ?_
              refine G.sub (lv' := [(0, .ref a0), (4, .int (0 : Int32)), (5, .int (0 : Int32))]) [2, 1, 0] rfl ?_
              refine loopE (fun (s18 : Int32 × Int32) => G yX12_day cX12_day 6 (some .int) 7 86 [(0, .ref a0), (4, .int s18.1), (5, .int s18.2)] [] M6 (some (.int o.1)) o.2) (fun (e18 : Int32) => G yX12_day cX12_day 6 (some .int) 7 121 [(0, .ref a0), (4, .int e18)] [] M6 (some (.int o.1)) o.2) h ?_ ?_
              · intro e18 h
                show G yX12_day cX12_day 6 (some .int) 7 121 [(0, .ref a0), (4, .int e18)] [] M6 (some (.int o.1)) o.2
                refine G.sub (lv' := [(0, .ref a0), (4, .int e18)]) [0, 1] rfl ?_
                exact Jj9 _ h
              · intro s18 x18 h K18
                show G yX12_day cX12_day 6 (some .int) 7 86 [(0, .ref a0), (4, .int s18.1), (5, .int s18.2)] [] M6 (some (.int o.1)) o.2
                refine G.iload dX12_day_86 rfl ?_
                refine G.aload_n dX12_day_88 rfl rfl ?_
                refine G.getI dX12_day_89 fkX12_308 fr12_62 h (fun v19 h => ?_)
                refine G.icmp_ge 121 dX12_day_92 (by decide) h (fun c20 h => ?_) (fun c20 h => ?_)
                · refine G.sub (lv' := [(0, .ref a0), (4, .int s18.1)]) [0, 1] rfl ?_
                  have h := leafR' h K18
                  exact h
                · refine G.iload dX12_day_95 rfl ?_
                  refine G.aload_n dX12_day_97 rfl rfl ?_
                  refine G.getR dX12_day_98 fkX12_167 fr12_69 h (fun v21 h => ?_)
                  refine G.iload dX12_day_101 rfl ?_
                  refine G.iald dX12_day_103 h (fun v22 h => ?_)
                  refine jn_elim (fun j24 => ∀ (u23 : Int32), j24 u23 = some x18 → G yX12_day cX12_day 6 (some .int) 7 112 [(0, .ref a0), (5, .int s18.2)] [.int u23, .int s18.1] M6 (some (.int o.1)) o.2) h ?_ ?_
                  · intro u23 h
                    refine G.iadd dX12_day_112 ?_
                    refine G.istore (lv' := [(4, .int (s18.1 + u23)), (0, .ref a0), (5, .int s18.2)]) dX12_day_113 (Nat.le_of_ble_eq_true rfl) rfl ?_
                    refine G.iinc s18.2 (w := (s18.2 + (1 : Int32))) (lv' := [(5, .int (s18.2 + (1 : Int32))), (4, .int (s18.1 + u23)), (0, .ref a0)]) dX12_day_115 rfl rfl (Nat.le_of_ble_eq_true rfl) rfl ?_
                    refine G.goto 86 dX12_day_118 (by decide) ?_
                    refine G.sub (lv' := [(0, .ref a0), (4, .int (s18.1 + u23)), (5, .int (s18.2 + (1 : Int32)))]) [2, 1, 0] rfl ?_
                    have h := leafL' h K18
                    exact h
                  · intro j24 Jj24 h
                    refine G.if_ne 111 dX12_day_104 (by decide) h (fun c25 h => ?_) (fun c25 h => ?_)
                    · refine G.iconst (1 : Int32) dX12_day_107 ki_1 ?_
                      refine G.goto 112 dX12_day_108 (by decide) ?_
                      refine G.sub (lv' := [(0, .ref a0), (5, .int s18.2)]) [0, 2] rfl ?_
                      exact Jj24 _ h
                    · refine G.iconst (0 : Int32) dX12_day_111 ki_0 ?_
                      refine G.sub (lv' := [(0, .ref a0), (5, .int s18.2)]) [0, 2] rfl ?_
                      exact Jj24 _ h
-- OnlyUpwardModel.kept(IIII)I
set_option maxRecDepth 100000 in
set_option maxHeartbeats 4000000 in
def F_X12_kept (n : Nat) (M : AM) (a0 : Nat) (a1 : Int32) (a2 : Int32) (a3 : Int32) (a4 : Int32) : Option (Int32 × AM) :=
  (F_X12_in n M a2 (1 : Int32) (50 : Int32)).bind fun v1 => if v1 = 0 then some ((-1 : Int32), M) else (F_X12_in n M a3 (0 : Int32) (100 : Int32)).bind fun v3 => if v3 = 0 then some ((-1 : Int32), M) else (rcv 12 M a0 (F_X12_isThing n M a0 a4)).bind fun v5 => if v5 = 0 then some ((-1 : Int32), M) else (iter (fun (s7 : Int32 × Int32 × AM) => if a2 ≤ s7.2.1 then some (.inr (s7.1, s7.2.2)) else (rcv 12 s7.2.2 a0 (F_X12_goesByLots n s7.2.2 a0 (a1 + s7.2.1) a3)).bind fun M10 => (rcv 12 M10 a0 (F_X12_goneNow n M10 a0)).bind fun v11 => jn (fun (u12 : Int32) => some (.inl (u12, (s7.2.1 + (1 : Int32)), M10))) fun j13 => if ((v11 >>> (a4 &&& 31)) &&& (1 : Int32)) = 0 then j13 (s7.1 + (1 : Int32)) else j13 s7.1) n ((0 : Int32), (0 : Int32), M)).bind fun (e7 : Int32 × AM) => (pI 12 61 e7.2 a0 (0 : Int32)).bind fun M15 => some (e7.1, M15)
set_option maxRecDepth 100000 in
set_option maxHeartbeats 4000000 in
theorem C_X12_kept {n : Nat} {M : AM} {a0 : Nat} {a1 : Int32} {a2 : Int32} {a3 : Int32} {a4 : Int32} {o : (Int32 × AM)} (h : F_X12_kept n M a0 a1 a2 a3 a4 = some o) : Cn yX12_kept cX12_kept 7 (some .int) 7 [.ref a0, .int a1, .int a2, .int a3, .int a4] M (some (.int o.1)) o.2 := by
  unfold F_X12_kept at h
  refine Cn.of rfl (Nat.le_of_ble_eq_true rfl) ?_
  show G yX12_kept cX12_kept 7 (some .int) 7 0 [(0, .ref a0), (1, .int a1), (2, .int a2), (3, .int a3), (4, .int a4)] [] M (some (.int o.1)) o.2
  refine G.iload_n dX12_kept_0 rfl rfl ?_
  refine G.iconst (1 : Int32) dX12_kept_1 ki_1 ?_
  refine G.bipush (50 : Int32) dX12_kept_2 kb_50 ?_
  refine G.callSi [.int a2, .int (1 : Int32), .int (50 : Int32)] [] dX12_kept_4 lkX12_386 okX12_in (fun v hv => C_X12_in hv) (Nat.le_of_ble_eq_true rfl) rfl rfl (Nat.le_of_ble_eq_true rfl) h (fun v1 h => ?_)
  refine G.if_eq 29 dX12_kept_7 (by decide) h (fun c2 h => ?_) (fun c2 h => ?_)
  · refine G.iconst (-1 : Int32) dX12_kept_29 ki_m1 ?_
    exact G.iretW dX12_kept_30 rfl (rfl) h
  · refine G.iload_n dX12_kept_10 rfl rfl ?_
    refine G.iconst (0 : Int32) dX12_kept_11 ki_0 ?_
    refine G.bipush (100 : Int32) dX12_kept_12 kb_100 ?_
    refine G.callSi [.int a3, .int (0 : Int32), .int (100 : Int32)] [] dX12_kept_14 lkX12_386 okX12_in (fun v hv => C_X12_in hv) (Nat.le_of_ble_eq_true rfl) rfl rfl (Nat.le_of_ble_eq_true rfl) h (fun v3 h => ?_)
    refine G.if_eq 29 dX12_kept_17 (by decide) h (fun c4 h => ?_) (fun c4 h => ?_)
    · refine G.iconst (-1 : Int32) dX12_kept_29 ki_m1 ?_
      exact G.iretW dX12_kept_30 rfl (rfl) h
    · refine G.aload_n dX12_kept_20 rfl rfl ?_
      refine G.iload dX12_kept_21 rfl ?_
      refine G.callVi (ci := 12) [.int a4] [] dX12_kept_23 lkX12_434 okX12_isThing rfl (fun v hv => C_X12_isThing hv) (Nat.le_of_ble_eq_true rfl) rfl rfl (Nat.le_of_ble_eq_true rfl) h (fun v5 h => ?_)
      refine G.if_ne 31 dX12_kept_26 (by decide) h (fun c6 h => ?_) (fun c6 h => ?_)
      · refine G.iconst (-1 : Int32) dX12_kept_29 ki_m1 ?_
        exact G.iretW dX12_kept_30 rfl (rfl) h
      · refine G.iconst (0 : Int32) dX12_kept_31 ki_0 ?_
        refine G.istore (lv' := [(5, .int (0 : Int32)), (0, .ref a0), (1, .int a1), (2, .int a2), (3, .int a3), (4, .int a4)]) dX12_kept_32 (Nat.le_of_ble_eq_true rfl) rfl ?_
        refine G.iconst (0 : Int32) dX12_kept_34 ki_0 ?_
        refine G.istore (lv' := [(6, .int (0 : Int32)), (5, .int (0 : Int32)), (0, .ref a0), (1, .int a1), (2, .int a2), (3, .int a3), (4, .int a4)]) dX12_kept_35 (Nat.le_of_ble_eq_true rfl) rfl ?_
        refine G.sub (lv' := [(0, .ref a0), (1, .int a1), (2, .int a2), (3, .int a3), (4, .int a4), (5, .int (0 : Int32)), (6, .int (0 : Int32))]) [2, 3, 4, 5, 6, 1, 0] rfl ?_
        refine loopE (fun (s7 : Int32 × Int32 × AM) => G yX12_kept cX12_kept 7 (some .int) 7 37 [(0, .ref a0), (1, .int a1), (2, .int a2), (3, .int a3), (4, .int a4), (5, .int s7.1), (6, .int s7.2.1)] [] s7.2.2 (some (.int o.1)) o.2) (fun (e7 : Int32 × AM) => G yX12_kept cX12_kept 7 (some .int) 7 73 [(0, .ref a0), (5, .int e7.1)] [] e7.2 (some (.int o.1)) o.2) h ?_ ?_
        · intro e7 h
          show G yX12_kept cX12_kept 7 (some .int) 7 73 [(0, .ref a0), (5, .int e7.1)] [] e7.2 (some (.int o.1)) o.2
          refine G.aload_n dX12_kept_73 rfl rfl ?_
          refine G.iconst (0 : Int32) dX12_kept_74 ki_0 ?_
          refine G.putI dX12_kept_75 fkX12_390 nf12_61 ft12_61 h (fun M15 h => ?_)
          refine G.iload dX12_kept_78 rfl ?_
          exact G.iretW dX12_kept_80 rfl (rfl) h
        · intro s7 x7 h K7
          show G yX12_kept cX12_kept 7 (some .int) 7 37 [(0, .ref a0), (1, .int a1), (2, .int a2), (3, .int a3), (4, .int a4), (5, .int s7.1), (6, .int s7.2.1)] [] s7.2.2 (some (.int o.1)) o.2
          refine G.iload dX12_kept_37 rfl ?_
          refine G.iload_n dX12_kept_39 rfl rfl ?_
          refine G.icmp_ge 73 dX12_kept_40 (by decide) h (fun c8 h => ?_) (fun c8 h => ?_)
          · refine G.sub (lv' := [(0, .ref a0), (5, .int s7.1)]) [0, 5] rfl ?_
            have h := leafR' h K7
            exact h
          · refine G.aload_n dX12_kept_43 rfl rfl ?_
            refine G.iload_n dX12_kept_44 rfl rfl ?_
            refine G.iload dX12_kept_45 rfl ?_
            refine G.iadd dX12_kept_47 ?_
            refine G.iload_n dX12_kept_48 rfl rfl ?_
            refine G.callVv (ci := 12) [.int (a1 + s7.2.1), .int a3] [] dX12_kept_49 lkX12_579 okX12_goesByLots rfl (fun v hv => C_X12_goesByLots hv) (Nat.le_of_ble_eq_true rfl) rfl rfl (Nat.le_of_ble_eq_true rfl) h (fun M10 h => ?_)
            refine G.aload_n dX12_kept_52 rfl rfl ?_
            refine G.callVi (ci := 12) [] [] dX12_kept_53 lkX12_582 okX12_goneNow rfl (fun v hv => C_X12_goneNow hv) (Nat.le_of_ble_eq_true rfl) rfl rfl (Nat.le_of_ble_eq_true rfl) h (fun v11 h => ?_)
            refine G.iload dX12_kept_56 rfl ?_
            refine G.ishr dX12_kept_58 ?_
            refine G.iconst (1 : Int32) dX12_kept_59 ki_1 ?_
            refine G.iand dX12_kept_60 ?_
            refine jn_elim (fun j13 => ∀ (u12 : Int32), j13 u12 = some x7 → G yX12_kept cX12_kept 7 (some .int) 7 67 [(0, .ref a0), (1, .int a1), (2, .int a2), (3, .int a3), (4, .int a4), (5, .int u12), (6, .int s7.2.1)] [] M10 (some (.int o.1)) o.2) h ?_ ?_
            · intro u12 h
              refine G.iinc s7.2.1 (w := (s7.2.1 + (1 : Int32))) (lv' := [(6, .int (s7.2.1 + (1 : Int32))), (0, .ref a0), (1, .int a1), (2, .int a2), (3, .int a3), (4, .int a4), (5, .int u12)]) dX12_kept_67 rfl rfl (Nat.le_of_ble_eq_true rfl) rfl ?_
              refine G.goto 37 dX12_kept_70 (by decide) ?_
              refine G.sub (lv' := [(0, .ref a0), (1, .int a1), (2, .int a2), (3, .int a3), (4, .int a4), (5, .int u12), (6, .int (s7.2.1 + (1 : Int32)))]) [1, 2, 3, 4, 5, 6, 0] rfl ?_
              have h := leafL' h K7
              exact h
            · intro j13 Jj13 h
              refine G.if_ne 67 dX12_kept_61 (by decide) h (fun c14 h => ?_) (fun c14 h => ?_)
              · refine G.iinc s7.1 (w := (s7.1 + (1 : Int32))) (lv' := [(5, .int (s7.1 + (1 : Int32))), (0, .ref a0), (1, .int a1), (2, .int a2), (3, .int a3), (4, .int a4), (6, .int s7.2.1)]) dX12_kept_64 rfl rfl (Nat.le_of_ble_eq_true rfl) rfl ?_
                refine G.sub (lv' := [(0, .ref a0), (1, .int a1), (2, .int a2), (3, .int a3), (4, .int a4), (5, .int (s7.1 + (1 : Int32))), (6, .int s7.2.1)]) [1, 2, 3, 4, 5, 0, 6] rfl ?_
                exact Jj13 _ h
              · refine G.sub (lv' := [(0, .ref a0), (1, .int a1), (2, .int a2), (3, .int a3), (4, .int a4), (5, .int s7.1), (6, .int s7.2.1)]) [0, 1, 2, 3, 4, 5, 6] rfl ?_
                exact Jj13 _ h
-- OnlyUpwardModel.hold(I)Z
set_option maxRecDepth 100000 in
set_option maxHeartbeats 4000000 in
def F_X12_hold (n : Nat) (M : AM) (a0 : Nat) (a1 : Int32) : Option (Int32 × AM) :=
  (F_X12_in n M a1 (0 : Int32) (2 : Int32)).bind fun v1 => if v1 = 0 then some ((0 : Int32), M) else (gR 12 88 M a0).bind fun v3 => (gI 12 62 M a0).bind fun v4 => (wrI M v3 a1 v4).bind fun M5 => (iter (fun (s6 : Int32 × AM) => (gI 12 62 s6.2 a0).bind fun v7 => if v7 ≤ s6.1 then some (.inr s6.2) else (gR 12 89 s6.2 a0).bind fun v9 => (gR 12 63 s6.2 a0).bind fun v10 => (rdI s6.2 v10 s6.1).bind fun v11 => (wrI s6.2 v9 (((30 : Int32) * a1) + s6.1) v11).bind fun M12 => (gR 12 90 M12 a0).bind fun v13 => (gR 12 64 M12 a0).bind fun v14 => (rdI M12 v14 s6.1).bind fun v15 => (wrI M12 v13 (((30 : Int32) * a1) + s6.1) v15).bind fun M16 => (gR 12 91 M16 a0).bind fun v17 => (gR 12 65 M16 a0).bind fun v18 => (rdI M16 v18 s6.1).bind fun v19 => (wrI M16 v17 (((30 : Int32) * a1) + s6.1) v19).bind fun M20 => (gR 12 92 M20 a0).bind fun v21 => (gR 12 66 M20 a0).bind fun v22 => (rdI M20 v22 s6.1).bind fun v23 => (wrI M20 v21 (((30 : Int32) * a1) + s6.1) v23).bind fun M24 => (gR 12 93 M24 a0).bind fun v25 => (gR 12 67 M24 a0).bind fun v26 => (rdI M24 v26 s6.1).bind fun v27 => (wrI M24 v25 (((30 : Int32) * a1) + s6.1) v27).bind fun M28 => some (.inl ((s6.1 + (1 : Int32)), M28))) n ((0 : Int32), M5)).bind fun (e6 : AM) => some ((1 : Int32), e6)
set_option maxRecDepth 100000 in
set_option maxHeartbeats 4000000 in
theorem C_X12_hold {n : Nat} {M : AM} {a0 : Nat} {a1 : Int32} {o : (Int32 × AM)} (h : F_X12_hold n M a0 a1 = some o) : Cn yX12_hold cX12_hold 3 (some .boolean) 1 [.ref a0, .int a1] M (some (.int o.1)) o.2 := by
  unfold F_X12_hold at h
  refine Cn.of rfl (Nat.le_of_ble_eq_true rfl) ?_
  show G yX12_hold cX12_hold 3 (some .boolean) 1 0 [(0, .ref a0), (1, .int a1)] [] M (some (.int o.1)) o.2
  refine G.iload_n dX12_hold_0 rfl rfl ?_
  refine G.iconst (0 : Int32) dX12_hold_1 ki_0 ?_
  refine G.iconst (2 : Int32) dX12_hold_2 ki_2 ?_
  refine G.callSi [.int a1, .int (0 : Int32), .int (2 : Int32)] [] dX12_hold_3 lkX12_386 okX12_in (fun v hv => C_X12_in hv) (Nat.le_of_ble_eq_true rfl) rfl rfl (Nat.le_of_ble_eq_true rfl) h (fun v1 h => ?_)
  refine G.if_ne 11 dX12_hold_6 (by decide) h (fun c2 h => ?_) (fun c2 h => ?_)
  · refine G.iconst (0 : Int32) dX12_hold_9 ki_0 ?_
    exact G.iretW dX12_hold_10 rfl (by decide) h
  · refine G.aload_n dX12_hold_11 rfl rfl ?_
    refine G.getR dX12_hold_12 fkX12_200 fr12_88 h (fun v3 h => ?_)
    refine G.iload_n dX12_hold_15 rfl rfl ?_
    refine G.aload_n dX12_hold_16 rfl rfl ?_
    refine G.getI dX12_hold_17 fkX12_308 fr12_62 h (fun v4 h => ?_)
    refine G.iast dX12_hold_20 h (fun M5 h => ?_)
    refine G.iconst (0 : Int32) dX12_hold_21 ki_0 ?_
    refine G.istore_n (lv' := [(2, .int (0 : Int32)), (0, .ref a0), (1, .int a1)]) dX12_hold_22 rfl (Nat.le_of_ble_eq_true rfl) rfl ?_
    refine G.sub (lv' := [(0, .ref a0), (1, .int a1), (2, .int (0 : Int32))]) [1, 2, 0] rfl ?_
    refine loopE (fun (s6 : Int32 × AM) => G yX12_hold cX12_hold 3 (some .boolean) 1 23 [(0, .ref a0), (1, .int a1), (2, .int s6.1)] [] s6.2 (some (.int o.1)) o.2) (fun (e6 : AM) => G yX12_hold cX12_hold 3 (some .boolean) 1 122 [] [] e6 (some (.int o.1)) o.2) h ?_ ?_
    · intro e6 h
      show G yX12_hold cX12_hold 3 (some .boolean) 1 122 [] [] e6 (some (.int o.1)) o.2
      refine G.iconst (1 : Int32) dX12_hold_122 ki_1 ?_
      exact G.iretW dX12_hold_123 rfl (by decide) h
    · intro s6 x6 h K6
      show G yX12_hold cX12_hold 3 (some .boolean) 1 23 [(0, .ref a0), (1, .int a1), (2, .int s6.1)] [] s6.2 (some (.int o.1)) o.2
      refine G.iload_n dX12_hold_23 rfl rfl ?_
      refine G.aload_n dX12_hold_24 rfl rfl ?_
      refine G.getI dX12_hold_25 fkX12_308 fr12_62 h (fun v7 h => ?_)
      refine G.icmp_ge 122 dX12_hold_28 (by decide) h (fun c8 h => ?_) (fun c8 h => ?_)
      · refine G.sub (lv' := []) [] rfl ?_
        have h := leafR' h K6
        exact h
      · refine G.aload_n dX12_hold_31 rfl rfl ?_
        refine G.getR dX12_hold_32 fkX12_203 fr12_89 h (fun v9 h => ?_)
        refine G.bipush (30 : Int32) dX12_hold_35 kb_30 ?_
        refine G.iload_n dX12_hold_37 rfl rfl ?_
        refine G.imul dX12_hold_38 ?_
        refine G.iload_n dX12_hold_39 rfl rfl ?_
        refine G.iadd dX12_hold_40 ?_
        refine G.aload_n dX12_hold_41 rfl rfl ?_
        refine G.getR dX12_hold_42 fkX12_149 fr12_63 h (fun v10 h => ?_)
        refine G.iload_n dX12_hold_45 rfl rfl ?_
        refine G.iald dX12_hold_46 h (fun v11 h => ?_)
        refine G.iast dX12_hold_47 h (fun M12 h => ?_)
        refine G.aload_n dX12_hold_48 rfl rfl ?_
        refine G.getR dX12_hold_49 fkX12_206 fr12_90 h (fun v13 h => ?_)
        refine G.bipush (30 : Int32) dX12_hold_52 kb_30 ?_
        refine G.iload_n dX12_hold_54 rfl rfl ?_
        refine G.imul dX12_hold_55 ?_
        refine G.iload_n dX12_hold_56 rfl rfl ?_
        refine G.iadd dX12_hold_57 ?_
        refine G.aload_n dX12_hold_58 rfl rfl ?_
        refine G.getR dX12_hold_59 fkX12_152 fr12_64 h (fun v14 h => ?_)
        refine G.iload_n dX12_hold_62 rfl rfl ?_
        refine G.iald dX12_hold_63 h (fun v15 h => ?_)
        refine G.iast dX12_hold_64 h (fun M16 h => ?_)
        refine G.aload_n dX12_hold_65 rfl rfl ?_
        refine G.getR dX12_hold_66 fkX12_209 fr12_91 h (fun v17 h => ?_)
        refine G.bipush (30 : Int32) dX12_hold_69 kb_30 ?_
        refine G.iload_n dX12_hold_71 rfl rfl ?_
        refine G.imul dX12_hold_72 ?_
        refine G.iload_n dX12_hold_73 rfl rfl ?_
        refine G.iadd dX12_hold_74 ?_
        refine G.aload_n dX12_hold_75 rfl rfl ?_
        refine G.getR dX12_hold_76 fkX12_155 fr12_65 h (fun v18 h => ?_)
        refine G.iload_n dX12_hold_79 rfl rfl ?_
        refine G.iald dX12_hold_80 h (fun v19 h => ?_)
        refine G.iast dX12_hold_81 h (fun M20 h => ?_)
        refine G.aload_n dX12_hold_82 rfl rfl ?_
        refine G.getR dX12_hold_83 fkX12_212 fr12_92 h (fun v21 h => ?_)
        refine G.bipush (30 : Int32) dX12_hold_86 kb_30 ?_
        refine G.iload_n dX12_hold_88 rfl rfl ?_
        refine G.imul dX12_hold_89 ?_
        refine G.iload_n dX12_hold_90 rfl rfl ?_
        refine G.iadd dX12_hold_91 ?_
        refine G.aload_n dX12_hold_92 rfl rfl ?_
        refine G.getR dX12_hold_93 fkX12_158 fr12_66 h (fun v22 h => ?_)
        refine G.iload_n dX12_hold_96 rfl rfl ?_
        refine G.iald dX12_hold_97 h (fun v23 h => ?_)
        refine G.iast dX12_hold_98 h (fun M24 h => ?_)
        refine G.aload_n dX12_hold_99 rfl rfl ?_
        refine G.getR dX12_hold_100 fkX12_215 fr12_93 h (fun v25 h => ?_)
        refine G.bipush (30 : Int32) dX12_hold_103 kb_30 ?_
        refine G.iload_n dX12_hold_105 rfl rfl ?_
        refine G.imul dX12_hold_106 ?_
        refine G.iload_n dX12_hold_107 rfl rfl ?_
        refine G.iadd dX12_hold_108 ?_
        refine G.aload_n dX12_hold_109 rfl rfl ?_
        refine G.getR dX12_hold_110 fkX12_161 fr12_67 h (fun v26 h => ?_)
        refine G.iload_n dX12_hold_113 rfl rfl ?_
        refine G.iald dX12_hold_114 h (fun v27 h => ?_)
        refine G.iast dX12_hold_115 h (fun M28 h => ?_)
        refine G.iinc s6.1 (w := (s6.1 + (1 : Int32))) (lv' := [(2, .int (s6.1 + (1 : Int32))), (0, .ref a0), (1, .int a1)]) dX12_hold_116 rfl rfl (Nat.le_of_ble_eq_true rfl) rfl ?_
        refine G.goto 23 dX12_hold_119 (by decide) ?_
        refine G.sub (lv' := [(0, .ref a0), (1, .int a1), (2, .int (s6.1 + (1 : Int32)))]) [1, 2, 0] rfl ?_
        have h := leafL' h K6
        exact h
-- OnlyUpwardModel.restore(I)Z
set_option maxRecDepth 100000 in
set_option maxHeartbeats 4000000 in
def F_X12_restore (n : Nat) (M : AM) (a0 : Nat) (a1 : Int32) : Option (Int32 × AM) :=
  (F_X12_in n M a1 (0 : Int32) (2 : Int32)).bind fun v1 => if v1 = 0 then some ((0 : Int32), M) else (gR 12 88 M a0).bind fun v3 => (rdI M v3 a1).bind fun v4 => if 0 ≤ v4 then (gR 12 88 M a0).bind fun v6 => (rdI M v6 a1).bind fun v7 => (pI 12 62 M a0 v7).bind fun M8 => (iter (fun (s9 : Int32 × AM) => (gI 12 62 s9.2 a0).bind fun v10 => if v10 ≤ s9.1 then some (.inr s9.2) else (gR 12 63 s9.2 a0).bind fun v12 => (gR 12 89 s9.2 a0).bind fun v13 => (rdI s9.2 v13 (((30 : Int32) * a1) + s9.1)).bind fun v14 => (wrI s9.2 v12 s9.1 v14).bind fun M15 => (gR 12 64 M15 a0).bind fun v16 => (gR 12 90 M15 a0).bind fun v17 => (rdI M15 v17 (((30 : Int32) * a1) + s9.1)).bind fun v18 => (wrI M15 v16 s9.1 v18).bind fun M19 => (gR 12 65 M19 a0).bind fun v20 => (gR 12 91 M19 a0).bind fun v21 => (rdI M19 v21 (((30 : Int32) * a1) + s9.1)).bind fun v22 => (wrI M19 v20 s9.1 v22).bind fun M23 => (gR 12 66 M23 a0).bind fun v24 => (gR 12 92 M23 a0).bind fun v25 => (rdI M23 v25 (((30 : Int32) * a1) + s9.1)).bind fun v26 => (wrI M23 v24 s9.1 v26).bind fun M27 => (gR 12 67 M27 a0).bind fun v28 => (gR 12 93 M27 a0).bind fun v29 => (rdI M27 v29 (((30 : Int32) * a1) + s9.1)).bind fun v30 => (wrI M27 v28 s9.1 v30).bind fun M31 => some (.inl ((s9.1 + (1 : Int32)), M31))) n ((0 : Int32), M8)).bind fun (e9 : AM) => some ((1 : Int32), e9) else some ((0 : Int32), M)
set_option maxRecDepth 100000 in
set_option maxHeartbeats 4000000 in
theorem C_X12_restore {n : Nat} {M : AM} {a0 : Nat} {a1 : Int32} {o : (Int32 × AM)} (h : F_X12_restore n M a0 a1 = some o) : Cn yX12_restore cX12_restore 3 (some .boolean) 1 [.ref a0, .int a1] M (some (.int o.1)) o.2 := by
  unfold F_X12_restore at h
  refine Cn.of rfl (Nat.le_of_ble_eq_true rfl) ?_
  show G yX12_restore cX12_restore 3 (some .boolean) 1 0 [(0, .ref a0), (1, .int a1)] [] M (some (.int o.1)) o.2
  refine G.iload_n dX12_restore_0 rfl rfl ?_
  refine G.iconst (0 : Int32) dX12_restore_1 ki_0 ?_
  refine G.iconst (2 : Int32) dX12_restore_2 ki_2 ?_
  refine G.callSi [.int a1, .int (0 : Int32), .int (2 : Int32)] [] dX12_restore_3 lkX12_386 okX12_in (fun v hv => C_X12_in hv) (Nat.le_of_ble_eq_true rfl) rfl rfl (Nat.le_of_ble_eq_true rfl) h (fun v1 h => ?_)
  refine G.if_eq 18 dX12_restore_6 (by decide) h (fun c2 h => ?_) (fun c2 h => ?_)
  · refine G.iconst (0 : Int32) dX12_restore_18 ki_0 ?_
    exact G.iretW dX12_restore_19 rfl (by decide) h
  · refine G.aload_n dX12_restore_9 rfl rfl ?_
    refine G.getR dX12_restore_10 fkX12_200 fr12_88 h (fun v3 h => ?_)
    refine G.iload_n dX12_restore_13 rfl rfl ?_
    refine G.iald dX12_restore_14 h (fun v4 h => ?_)
    refine G.if_ge 20 dX12_restore_15 (by decide) h (fun c5 h => ?_) (fun c5 h => ?_)
    · refine G.aload_n dX12_restore_20 rfl rfl ?_
      refine G.aload_n dX12_restore_21 rfl rfl ?_
      refine G.getR dX12_restore_22 fkX12_200 fr12_88 h (fun v6 h => ?_)
      refine G.iload_n dX12_restore_25 rfl rfl ?_
      refine G.iald dX12_restore_26 h (fun v7 h => ?_)
      refine G.putI dX12_restore_27 fkX12_308 nf12_62 ft12_62 h (fun M8 h => ?_)
      refine G.iconst (0 : Int32) dX12_restore_30 ki_0 ?_
      refine G.istore_n (lv' := [(2, .int (0 : Int32)), (0, .ref a0), (1, .int a1)]) dX12_restore_31 rfl (Nat.le_of_ble_eq_true rfl) rfl ?_
      refine G.sub (lv' := [(0, .ref a0), (1, .int a1), (2, .int (0 : Int32))]) [1, 2, 0] rfl ?_
      refine loopE (fun (s9 : Int32 × AM) => G yX12_restore cX12_restore 3 (some .boolean) 1 32 [(0, .ref a0), (1, .int a1), (2, .int s9.1)] [] s9.2 (some (.int o.1)) o.2) (fun (e9 : AM) => G yX12_restore cX12_restore 3 (some .boolean) 1 131 [] [] e9 (some (.int o.1)) o.2) h ?_ ?_
      · intro e9 h
        show G yX12_restore cX12_restore 3 (some .boolean) 1 131 [] [] e9 (some (.int o.1)) o.2
        refine G.iconst (1 : Int32) dX12_restore_131 ki_1 ?_
        exact G.iretW dX12_restore_132 rfl (by decide) h
      · intro s9 x9 h K9
        show G yX12_restore cX12_restore 3 (some .boolean) 1 32 [(0, .ref a0), (1, .int a1), (2, .int s9.1)] [] s9.2 (some (.int o.1)) o.2
        refine G.iload_n dX12_restore_32 rfl rfl ?_
        refine G.aload_n dX12_restore_33 rfl rfl ?_
        refine G.getI dX12_restore_34 fkX12_308 fr12_62 h (fun v10 h => ?_)
        refine G.icmp_ge 131 dX12_restore_37 (by decide) h (fun c11 h => ?_) (fun c11 h => ?_)
        · refine G.sub (lv' := []) [] rfl ?_
          have h := leafR' h K9
          exact h
        · refine G.aload_n dX12_restore_40 rfl rfl ?_
          refine G.getR dX12_restore_41 fkX12_149 fr12_63 h (fun v12 h => ?_)
          refine G.iload_n dX12_restore_44 rfl rfl ?_
          refine G.aload_n dX12_restore_45 rfl rfl ?_
          refine G.getR dX12_restore_46 fkX12_203 fr12_89 h (fun v13 h => ?_)
          refine G.bipush (30 : Int32) dX12_restore_49 kb_30 ?_
          refine G.iload_n dX12_restore_51 rfl rfl ?_
          refine G.imul dX12_restore_52 ?_
          refine G.iload_n dX12_restore_53 rfl rfl ?_
          refine G.iadd dX12_restore_54 ?_
          refine G.iald dX12_restore_55 h (fun v14 h => ?_)
          refine G.iast dX12_restore_56 h (fun M15 h => ?_)
          refine G.aload_n dX12_restore_57 rfl rfl ?_
          refine G.getR dX12_restore_58 fkX12_152 fr12_64 h (fun v16 h => ?_)
          refine G.iload_n dX12_restore_61 rfl rfl ?_
          refine G.aload_n dX12_restore_62 rfl rfl ?_
          refine G.getR dX12_restore_63 fkX12_206 fr12_90 h (fun v17 h => ?_)
          refine G.bipush (30 : Int32) dX12_restore_66 kb_30 ?_
          refine G.iload_n dX12_restore_68 rfl rfl ?_
          refine G.imul dX12_restore_69 ?_
          refine G.iload_n dX12_restore_70 rfl rfl ?_
          refine G.iadd dX12_restore_71 ?_
          refine G.iald dX12_restore_72 h (fun v18 h => ?_)
          refine G.iast dX12_restore_73 h (fun M19 h => ?_)
          refine G.aload_n dX12_restore_74 rfl rfl ?_
          refine G.getR dX12_restore_75 fkX12_155 fr12_65 h (fun v20 h => ?_)
          refine G.iload_n dX12_restore_78 rfl rfl ?_
          refine G.aload_n dX12_restore_79 rfl rfl ?_
          refine G.getR dX12_restore_80 fkX12_209 fr12_91 h (fun v21 h => ?_)
          refine G.bipush (30 : Int32) dX12_restore_83 kb_30 ?_
          refine G.iload_n dX12_restore_85 rfl rfl ?_
          refine G.imul dX12_restore_86 ?_
          refine G.iload_n dX12_restore_87 rfl rfl ?_
          refine G.iadd dX12_restore_88 ?_
          refine G.iald dX12_restore_89 h (fun v22 h => ?_)
          refine G.iast dX12_restore_90 h (fun M23 h => ?_)
          refine G.aload_n dX12_restore_91 rfl rfl ?_
          refine G.getR dX12_restore_92 fkX12_158 fr12_66 h (fun v24 h => ?_)
          refine G.iload_n dX12_restore_95 rfl rfl ?_
          refine G.aload_n dX12_restore_96 rfl rfl ?_
          refine G.getR dX12_restore_97 fkX12_212 fr12_92 h (fun v25 h => ?_)
          refine G.bipush (30 : Int32) dX12_restore_100 kb_30 ?_
          refine G.iload_n dX12_restore_102 rfl rfl ?_
          refine G.imul dX12_restore_103 ?_
          refine G.iload_n dX12_restore_104 rfl rfl ?_
          refine G.iadd dX12_restore_105 ?_
          refine G.iald dX12_restore_106 h (fun v26 h => ?_)
          refine G.iast dX12_restore_107 h (fun M27 h => ?_)
          refine G.aload_n dX12_restore_108 rfl rfl ?_
          refine G.getR dX12_restore_109 fkX12_161 fr12_67 h (fun v28 h => ?_)
          refine G.iload_n dX12_restore_112 rfl rfl ?_
          refine G.aload_n dX12_restore_113 rfl rfl ?_
          refine G.getR dX12_restore_114 fkX12_215 fr12_93 h (fun v29 h => ?_)
          refine G.bipush (30 : Int32) dX12_restore_117 kb_30 ?_
          refine G.iload_n dX12_restore_119 rfl rfl ?_
          refine G.imul dX12_restore_120 ?_
          refine G.iload_n dX12_restore_121 rfl rfl ?_
          refine G.iadd dX12_restore_122 ?_
          refine G.iald dX12_restore_123 h (fun v30 h => ?_)
          refine G.iast dX12_restore_124 h (fun M31 h => ?_)
          refine G.iinc s9.1 (w := (s9.1 + (1 : Int32))) (lv' := [(2, .int (s9.1 + (1 : Int32))), (0, .ref a0), (1, .int a1)]) dX12_restore_125 rfl rfl (Nat.le_of_ble_eq_true rfl) rfl ?_
          refine G.goto 32 dX12_restore_128 (by decide) ?_
          refine G.sub (lv' := [(0, .ref a0), (1, .int a1), (2, .int (s9.1 + (1 : Int32)))]) [1, 2, 0] rfl ?_
          have h := leafL' h K9
          exact h
    · refine G.iconst (0 : Int32) dX12_restore_18 ki_0 ?_
      exact G.iretW dX12_restore_19 rfl (by decide) h
-- OnlyUpwardModel.count(I)I
set_option maxRecDepth 100000 in
set_option maxHeartbeats 4000000 in
def F_X12_count (n : Nat) (M : AM) (a0 : Nat) (a1 : Int32) : Option Int32 :=
  jn ((rcv 12 M a0 (F_X12_has n M a0 a1)).bind fun v1 => some v1) fun j2 => if a1 = (0 : Int32) then j2 else if a1 = (1 : Int32) then j2 else if a1 = (2 : Int32) then j2 else if a1 = (3 : Int32) then j2 else if a1 = (4 : Int32) then j2 else if a1 = (5 : Int32) then (rcv 12 M a0 (F_X12_has n M a0 (6 : Int32))).bind fun v9 => some v9 else if a1 = (6 : Int32) then (rcv 12 M a0 (F_X12_has n M a0 (7 : Int32))).bind fun v11 => some v11 else if a1 = (7 : Int32) then (gR 12 25 M a0).bind fun v13 => (gI 12 18 M a0).bind fun v14 => (rdI M v13 v14).bind fun v15 => some v15 else if a1 = (8 : Int32) then (gR 12 43 M a0).bind fun v17 => (gI 12 18 M a0).bind fun v18 => (rdI M v17 ((2 : Int32) * v18)).bind fun v19 => some v19 else if a1 = (9 : Int32) then (gR 12 43 M a0).bind fun v21 => (gI 12 18 M a0).bind fun v22 => (rdI M v21 (((2 : Int32) * v22) + (1 : Int32))).bind fun v23 => some v23 else if a1 = (10 : Int32) then (gI 12 62 M a0).bind fun v25 => some v25 else if a1 = (11 : Int32) then (gI 12 2 M a0).bind fun v27 => some v27 else if a1 = (12 : Int32) then (gR 12 88 M a0).bind fun v29 => (rdI M v29 (0 : Int32)).bind fun v30 => jn (fun (u31 : Int32) => (gR 12 88 M a0).bind fun v32 => (rdI M v32 (1 : Int32)).bind fun v33 => jn (fun (u34 : Int32) => (gR 12 88 M a0).bind fun v35 => (rdI M v35 (2 : Int32)).bind fun v36 => jn (fun (u37 : Int32) => some ((u31 + u34) + u37)) fun j38 => if 0 ≤ v36 then j38 (1 : Int32) else j38 (0 : Int32)) fun j40 => if 0 ≤ v33 then j40 (1 : Int32) else j40 (0 : Int32)) fun j42 => if 0 ≤ v30 then j42 (1 : Int32) else j42 (0 : Int32) else (rcv 12 M a0 (F_X12_isThing n M a0 (a1 - (20 : Int32)))).bind fun v44 => if v44 = 0 then (gR 12 25 M a0).bind fun v46 => (gI 12 18 M a0).bind fun v47 => (rdI M v46 v47).bind fun v48 => (F_X12_in n M (a1 - (30 : Int32)) (0 : Int32) (v48 - (1 : Int32))).bind fun v49 => if v49 = 0 then (rcv 12 M a0 (F_X12_isAct n M a0 (a1 - (40 : Int32)))).bind fun v51 => if v51 = 0 then some (-1 : Int32) else (gR 12 41 M a0).bind fun v53 => (gI 12 18 M a0).bind fun v54 => (rdI M v53 ((((6 : Int32) * v54) + a1) - (40 : Int32))).bind fun v55 => some v55 else (gR 12 42 M a0).bind fun v56 => (gI 12 18 M a0).bind fun v57 => (rdI M v56 ((((4 : Int32) * v57) + a1) - (30 : Int32))).bind fun v58 => (F_X12_bits n M v58).bind fun v59 => some v59 else (gR 12 28 M a0).bind fun v60 => (gI 12 18 M a0).bind fun v61 => (rdI M v60 ((((6 : Int32) * v61) + a1) - (20 : Int32))).bind fun v62 => some v62
set_option maxRecDepth 100000 in
set_option maxHeartbeats 4000000 in
theorem C_X12_count {n : Nat} {M : AM} {a0 : Nat} {a1 : Int32} {o : Int32} (h : F_X12_count n M a0 a1 = some o) : Cn yX12_count cX12_count 2 (some .int) 2 [.ref a0, .int a1] M (some (.int o)) M := by
  unfold F_X12_count at h
  refine Cn.of rfl (Nat.le_of_ble_eq_true rfl) ?_
  show G yX12_count cX12_count 2 (some .int) 2 0 [(0, .ref a0), (1, .int a1)] [] M (some (.int o)) M
  refine G.iload_n dX12_count_0 rfl rfl ?_
  refine jn_elim (fun j2 => j2 = some o → G yX12_count cX12_count 2 (some .int) 2 68 [(0, .ref a0), (1, .int a1)] [] M (some (.int o)) M) h ?_ ?_
  · intro h
    refine G.aload_n dX12_count_68 rfl rfl ?_
    refine G.iload_n dX12_count_69 rfl rfl ?_
    refine G.callVi (ci := 12) [.int a1] [] dX12_count_70 lkX12_383 okX12_has rfl (fun v hv => C_X12_has hv) (Nat.le_of_ble_eq_true rfl) rfl rfl (Nat.le_of_ble_eq_true rfl) h (fun v1 h => ?_)
    exact G.iret dX12_count_73 rfl (rfl) h
  · intro j2 Jj2 h
    refine G.sw h (fun c3 h => ?_) (fun c3 h => ?_)
    · refine G.tableIn 68 dX12_count_1 (by rw [c3]; decide) (by rw [c3]; decide) (by rw [c3]; rfl) (by decide) ?_
      refine G.sub (lv' := [(0, .ref a0), (1, .int a1)]) [0, 1] rfl ?_
      exact Jj2  h
    · refine G.sw h (fun c4 h => ?_) (fun c4 h => ?_)
      · refine G.tableIn 68 dX12_count_1 (by rw [c4]; decide) (by rw [c4]; decide) (by rw [c4]; rfl) (by decide) ?_
        refine G.sub (lv' := [(0, .ref a0), (1, .int a1)]) [0, 1] rfl ?_
        exact Jj2  h
      · refine G.sw h (fun c5 h => ?_) (fun c5 h => ?_)
        · refine G.tableIn 68 dX12_count_1 (by rw [c5]; decide) (by rw [c5]; decide) (by rw [c5]; rfl) (by decide) ?_
          refine G.sub (lv' := [(0, .ref a0), (1, .int a1)]) [0, 1] rfl ?_
          exact Jj2  h
        · refine G.sw h (fun c6 h => ?_) (fun c6 h => ?_)
          · refine G.tableIn 68 dX12_count_1 (by rw [c6]; decide) (by rw [c6]; decide) (by rw [c6]; rfl) (by decide) ?_
            refine G.sub (lv' := [(0, .ref a0), (1, .int a1)]) [0, 1] rfl ?_
            exact Jj2  h
          · refine G.sw h (fun c7 h => ?_) (fun c7 h => ?_)
            · refine G.tableIn 68 dX12_count_1 (by rw [c7]; decide) (by rw [c7]; decide) (by rw [c7]; rfl) (by decide) ?_
              refine G.sub (lv' := [(0, .ref a0), (1, .int a1)]) [0, 1] rfl ?_
              exact Jj2  h
            · refine G.sw h (fun c8 h => ?_) (fun c8 h => ?_)
              · refine G.tableIn 74 dX12_count_1 (by rw [c8]; decide) (by rw [c8]; decide) (by rw [c8]; rfl) (by decide) ?_
                refine G.aload_n dX12_count_74 rfl rfl ?_
                refine G.bipush (6 : Int32) dX12_count_75 kb_6 ?_
                refine G.callVi (ci := 12) [.int (6 : Int32)] [] dX12_count_77 lkX12_383 okX12_has rfl (fun v hv => C_X12_has hv) (Nat.le_of_ble_eq_true rfl) rfl rfl (Nat.le_of_ble_eq_true rfl) h (fun v9 h => ?_)
                exact G.iret dX12_count_80 rfl (rfl) h
              · refine G.sw h (fun c10 h => ?_) (fun c10 h => ?_)
                · refine G.tableIn 81 dX12_count_1 (by rw [c10]; decide) (by rw [c10]; decide) (by rw [c10]; rfl) (by decide) ?_
                  refine G.aload_n dX12_count_81 rfl rfl ?_
                  refine G.bipush (7 : Int32) dX12_count_82 kb_7 ?_
                  refine G.callVi (ci := 12) [.int (7 : Int32)] [] dX12_count_84 lkX12_383 okX12_has rfl (fun v hv => C_X12_has hv) (Nat.le_of_ble_eq_true rfl) rfl rfl (Nat.le_of_ble_eq_true rfl) h (fun v11 h => ?_)
                  exact G.iret dX12_count_87 rfl (rfl) h
                · refine G.sw h (fun c12 h => ?_) (fun c12 h => ?_)
                  · refine G.tableIn 88 dX12_count_1 (by rw [c12]; decide) (by rw [c12]; decide) (by rw [c12]; rfl) (by decide) ?_
                    refine G.aload_n dX12_count_88 rfl rfl ?_
                    refine G.getR dX12_count_89 fkX12_52 fr12_25 h (fun v13 h => ?_)
                    refine G.aload_n dX12_count_92 rfl rfl ?_
                    refine G.getI dX12_count_93 fkX12_290 fr12_18 h (fun v14 h => ?_)
                    refine G.iald dX12_count_96 h (fun v15 h => ?_)
                    exact G.iret dX12_count_97 rfl (rfl) h
                  · refine G.sw h (fun c16 h => ?_) (fun c16 h => ?_)
                    · refine G.tableIn 98 dX12_count_1 (by rw [c16]; decide) (by rw [c16]; decide) (by rw [c16]; rfl) (by decide) ?_
                      refine G.aload_n dX12_count_98 rfl rfl ?_
                      refine G.getR dX12_count_99 fkX12_106 fr12_43 h (fun v17 h => ?_)
                      refine G.iconst (2 : Int32) dX12_count_102 ki_2 ?_
                      refine G.aload_n dX12_count_103 rfl rfl ?_
                      refine G.getI dX12_count_104 fkX12_290 fr12_18 h (fun v18 h => ?_)
                      refine G.imul dX12_count_107 ?_
                      refine G.iald dX12_count_108 h (fun v19 h => ?_)
                      exact G.iret dX12_count_109 rfl (rfl) h
                    · refine G.sw h (fun c20 h => ?_) (fun c20 h => ?_)
                      · refine G.tableIn 110 dX12_count_1 (by rw [c20]; decide) (by rw [c20]; decide) (by rw [c20]; rfl) (by decide) ?_
                        refine G.aload_n dX12_count_110 rfl rfl ?_
                        refine G.getR dX12_count_111 fkX12_106 fr12_43 h (fun v21 h => ?_)
                        refine G.iconst (2 : Int32) dX12_count_114 ki_2 ?_
                        refine G.aload_n dX12_count_115 rfl rfl ?_
                        refine G.getI dX12_count_116 fkX12_290 fr12_18 h (fun v22 h => ?_)
                        refine G.imul dX12_count_119 ?_
                        refine G.iconst (1 : Int32) dX12_count_120 ki_1 ?_
                        refine G.iadd dX12_count_121 ?_
                        refine G.iald dX12_count_122 h (fun v23 h => ?_)
                        exact G.iret dX12_count_123 rfl (rfl) h
                      · refine G.sw h (fun c24 h => ?_) (fun c24 h => ?_)
                        · refine G.tableIn 124 dX12_count_1 (by rw [c24]; decide) (by rw [c24]; decide) (by rw [c24]; rfl) (by decide) ?_
                          refine G.aload_n dX12_count_124 rfl rfl ?_
                          refine G.getI dX12_count_125 fkX12_308 fr12_62 h (fun v25 h => ?_)
                          exact G.iret dX12_count_128 rfl (rfl) h
                        · refine G.sw h (fun c26 h => ?_) (fun c26 h => ?_)
                          · refine G.tableIn 129 dX12_count_1 (by rw [c26]; decide) (by rw [c26]; decide) (by rw [c26]; rfl) (by decide) ?_
                            refine G.aload_n dX12_count_129 rfl rfl ?_
                            refine G.getI dX12_count_130 fkX12_222 fr12_2 h (fun v27 h => ?_)
                            exact G.iret dX12_count_133 rfl (rfl) h
                          · refine G.sw h (fun c28 h => ?_) (fun c28 h => ?_)
                            · refine G.tableIn 134 dX12_count_1 (by rw [c28]; decide) (by rw [c28]; decide) (by rw [c28]; rfl) (by decide) ?_
                              refine G.aload_n dX12_count_134 rfl rfl ?_
                              refine G.getR dX12_count_135 fkX12_200 fr12_88 h (fun v29 h => ?_)
                              refine G.iconst (0 : Int32) dX12_count_138 ki_0 ?_
                              refine G.iald dX12_count_139 h (fun v30 h => ?_)
                              refine jn_elim (fun j42 => ∀ (u31 : Int32), j42 u31 = some o → G yX12_count cX12_count 2 (some .int) 2 148 [(0, .ref a0)] [.int u31] M (some (.int o)) M) h ?_ ?_
                              · intro u31 h
                                refine G.aload_n dX12_count_148 rfl rfl ?_
                                refine G.getR dX12_count_149 fkX12_200 fr12_88 h (fun v32 h => ?_)
                                refine G.iconst (1 : Int32) dX12_count_152 ki_1 ?_
                                refine G.iald dX12_count_153 h (fun v33 h => ?_)
                                refine jn_elim (fun j40 => ∀ (u34 : Int32), j40 u34 = some o → G yX12_count cX12_count 2 (some .int) 2 162 [(0, .ref a0)] [.int u34, .int u31] M (some (.int o)) M) h ?_ ?_
                                · intro u34 h
                                  refine G.iadd dX12_count_162 ?_
                                  refine G.aload_n dX12_count_163 rfl rfl ?_
                                  refine G.getR dX12_count_164 fkX12_200 fr12_88 h (fun v35 h => ?_)
                                  refine G.iconst (2 : Int32) dX12_count_167 ki_2 ?_
                                  refine G.iald dX12_count_168 h (fun v36 h => ?_)
                                  refine jn_elim (fun j38 => ∀ (u37 : Int32), j38 u37 = some o → G yX12_count cX12_count 2 (some .int) 2 177 [] [.int u37, .int (u31 + u34)] M (some (.int o)) M) h ?_ ?_
                                  · intro u37 h
                                    refine G.iadd dX12_count_177 ?_
                                    exact G.iret dX12_count_178 rfl (rfl) h
                                  · intro j38 Jj38 h
                                    refine G.if_ge 176 dX12_count_169 (by decide) h (fun c39 h => ?_) (fun c39 h => ?_)
                                    · refine G.iconst (1 : Int32) dX12_count_176 ki_1 ?_
                                      refine G.sub (lv' := []) [] rfl ?_
                                      exact Jj38 _ h
                                    · refine G.iconst (0 : Int32) dX12_count_172 ki_0 ?_
                                      refine G.goto 177 dX12_count_173 (by decide) ?_
                                      refine G.sub (lv' := []) [] rfl ?_
                                      exact Jj38 _ h
                                · intro j40 Jj40 h
                                  refine G.if_ge 161 dX12_count_154 (by decide) h (fun c41 h => ?_) (fun c41 h => ?_)
                                  · refine G.iconst (1 : Int32) dX12_count_161 ki_1 ?_
                                    refine G.sub (lv' := [(0, .ref a0)]) [0] rfl ?_
                                    exact Jj40 _ h
                                  · refine G.iconst (0 : Int32) dX12_count_157 ki_0 ?_
                                    refine G.goto 162 dX12_count_158 (by decide) ?_
                                    refine G.sub (lv' := [(0, .ref a0)]) [0] rfl ?_
                                    exact Jj40 _ h
                              · intro j42 Jj42 h
                                refine G.if_ge 147 dX12_count_140 (by decide) h (fun c43 h => ?_) (fun c43 h => ?_)
                                · refine G.iconst (1 : Int32) dX12_count_147 ki_1 ?_
                                  refine G.sub (lv' := [(0, .ref a0)]) [0] rfl ?_
                                  exact Jj42 _ h
                                · refine G.iconst (0 : Int32) dX12_count_143 ki_0 ?_
                                  refine G.goto 148 dX12_count_144 (by decide) ?_
                                  refine G.sub (lv' := [(0, .ref a0)]) [0] rfl ?_
                                  exact Jj42 _ h
                            · refine G.tableOut 179 dX12_count_1 (sw_out (lo := 0) (hi := 12) (fun z63 g1 g2 ge => ?_)) (by decide) ?_
                              · have hz : z63 = 0 ∨ z63 = 1 ∨ z63 = 2 ∨ z63 = 3 ∨ z63 = 4 ∨ z63 = 5 ∨ z63 = 6 ∨ z63 = 7 ∨ z63 = 8 ∨ z63 = 9 ∨ z63 = 10 ∨ z63 = 11 ∨ z63 = 12 := by omega
                                rcases hz with rfl | rfl | rfl | rfl | rfl | rfl | rfl | rfl | rfl | rfl | rfl | rfl | rfl
                                · exact c3 ge
                                · exact c4 ge
                                · exact c5 ge
                                · exact c6 ge
                                · exact c7 ge
                                · exact c8 ge
                                · exact c10 ge
                                · exact c12 ge
                                · exact c16 ge
                                · exact c20 ge
                                · exact c24 ge
                                · exact c26 ge
                                · exact c28 ge
                              · refine G.aload_n dX12_count_179 rfl rfl ?_
                                refine G.iload_n dX12_count_180 rfl rfl ?_
                                refine G.bipush (20 : Int32) dX12_count_181 kb_20 ?_
                                refine G.isub dX12_count_183 ?_
                                refine G.callVi (ci := 12) [.int (a1 - (20 : Int32))] [] dX12_count_184 lkX12_434 okX12_isThing rfl (fun v hv => C_X12_isThing hv) (Nat.le_of_ble_eq_true rfl) rfl rfl (Nat.le_of_ble_eq_true rfl) h (fun v44 h => ?_)
                                refine G.if_eq 208 dX12_count_187 (by decide) h (fun c45 h => ?_) (fun c45 h => ?_)
                                · refine G.iload_n dX12_count_208 rfl rfl ?_
                                  refine G.bipush (30 : Int32) dX12_count_209 kb_30 ?_
                                  refine G.isub dX12_count_211 ?_
                                  refine G.iconst (0 : Int32) dX12_count_212 ki_0 ?_
                                  refine G.aload_n dX12_count_213 rfl rfl ?_
                                  refine G.getR dX12_count_214 fkX12_52 fr12_25 h (fun v46 h => ?_)
                                  refine G.aload_n dX12_count_217 rfl rfl ?_
                                  refine G.getI dX12_count_218 fkX12_290 fr12_18 h (fun v47 h => ?_)
                                  refine G.iald dX12_count_221 h (fun v48 h => ?_)
                                  refine G.iconst (1 : Int32) dX12_count_222 ki_1 ?_
                                  refine G.isub dX12_count_223 ?_
                                  refine G.callSi [.int (a1 - (30 : Int32)), .int (0 : Int32), .int (v48 - (1 : Int32))] [] dX12_count_224 lkX12_386 okX12_in (fun v hv => C_X12_in hv) (Nat.le_of_ble_eq_true rfl) rfl rfl (Nat.le_of_ble_eq_true rfl) h (fun v49 h => ?_)
                                  refine G.if_eq 250 dX12_count_227 (by decide) h (fun c50 h => ?_) (fun c50 h => ?_)
                                  · refine G.aload_n dX12_count_250 rfl rfl ?_
                                    refine G.iload_n dX12_count_251 rfl rfl ?_
                                    refine G.bipush (40 : Int32) dX12_count_252 kb_40 ?_
                                    refine G.isub dX12_count_254 ?_
                                    refine G.callVi (ci := 12) [.int (a1 - (40 : Int32))] [] dX12_count_255 lkX12_441 okX12_isAct rfl (fun v hv => C_X12_isAct hv) (Nat.le_of_ble_eq_true rfl) rfl rfl (Nat.le_of_ble_eq_true rfl) h (fun v51 h => ?_)
                                    refine G.if_eq 281 dX12_count_258 (by decide) h (fun c52 h => ?_) (fun c52 h => ?_)
                                    · refine G.iconst (-1 : Int32) dX12_count_281 ki_m1 ?_
                                      exact G.iret dX12_count_282 rfl (rfl) h
                                    · refine G.aload_n dX12_count_261 rfl rfl ?_
                                      refine G.getR dX12_count_262 fkX12_100 fr12_41 h (fun v53 h => ?_)
                                      refine G.bipush (6 : Int32) dX12_count_265 kb_6 ?_
                                      refine G.aload_n dX12_count_267 rfl rfl ?_
                                      refine G.getI dX12_count_268 fkX12_290 fr12_18 h (fun v54 h => ?_)
                                      refine G.imul dX12_count_271 ?_
                                      refine G.iload_n dX12_count_272 rfl rfl ?_
                                      refine G.iadd dX12_count_273 ?_
                                      refine G.bipush (40 : Int32) dX12_count_274 kb_40 ?_
                                      refine G.isub dX12_count_276 ?_
                                      refine G.iald dX12_count_277 h (fun v55 h => ?_)
                                      refine G.goto 282 dX12_count_278 (by decide) ?_
                                      exact G.iret dX12_count_282 rfl (rfl) h
                                  · refine G.aload_n dX12_count_230 rfl rfl ?_
                                    refine G.getR dX12_count_231 fkX12_103 fr12_42 h (fun v56 h => ?_)
                                    refine G.iconst (4 : Int32) dX12_count_234 ki_4 ?_
                                    refine G.aload_n dX12_count_235 rfl rfl ?_
                                    refine G.getI dX12_count_236 fkX12_290 fr12_18 h (fun v57 h => ?_)
                                    refine G.imul dX12_count_239 ?_
                                    refine G.iload_n dX12_count_240 rfl rfl ?_
                                    refine G.iadd dX12_count_241 ?_
                                    refine G.bipush (30 : Int32) dX12_count_242 kb_30 ?_
                                    refine G.isub dX12_count_244 ?_
                                    refine G.iald dX12_count_245 h (fun v58 h => ?_)
                                    refine G.callSi [.int v58] [] dX12_count_246 lkX12_409 okX12_bits (fun v hv => C_X12_bits hv) (Nat.le_of_ble_eq_true rfl) rfl rfl (Nat.le_of_ble_eq_true rfl) h (fun v59 h => ?_)
                                    exact G.iret dX12_count_249 rfl (rfl) h
                                · refine G.aload_n dX12_count_190 rfl rfl ?_
                                  refine G.getR dX12_count_191 fkX12_61 fr12_28 h (fun v60 h => ?_)
                                  refine G.bipush (6 : Int32) dX12_count_194 kb_6 ?_
                                  refine G.aload_n dX12_count_196 rfl rfl ?_
                                  refine G.getI dX12_count_197 fkX12_290 fr12_18 h (fun v61 h => ?_)
                                  refine G.imul dX12_count_200 ?_
                                  refine G.iload_n dX12_count_201 rfl rfl ?_
                                  refine G.iadd dX12_count_202 ?_
                                  refine G.bipush (20 : Int32) dX12_count_203 kb_20 ?_
                                  refine G.isub dX12_count_205 ?_
                                  refine G.iald dX12_count_206 h (fun v62 h => ?_)
                                  exact G.iret dX12_count_207 rfl (rfl) h
