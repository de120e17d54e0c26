-- OnlyUpwardModel.read()I
set_option maxRecDepth 100000 in
set_option maxHeartbeats 4000000 in
def F_X12_read (n : Nat) (M : AM) (a0 : Nat) : Option (Int32 × AM) :=
  (gI 12 2 M a0).bind fun v1 => (pI 12 4 M a0 v1).bind fun M2 => (iter (fun (s3 : Int32 × AM) => (gI 12 4 s3.2 a0).bind fun v4 => if v4 ≤ s3.1 then some (.inr s3.2) else (gR 12 3 s3.2 a0).bind fun v6 => (gR 12 1 s3.2 a0).bind fun v7 => (rdB s3.2 v7 s3.1).bind fun v8 => (wrB s3.2 v6 s3.1 v8).bind fun M9 => some (.inl ((s3.1 + (1 : Int32)), M9))) n ((0 : Int32), M2)).bind fun (e3 : AM) => (pI 12 2 e3 a0 (0 : Int32)).bind fun M10 => (rcv 12 M10 a0 (F_X12_cut n M10 a0)).bind fun M12 => (pI 12 11 M12 a0 (0 : Int32)).bind fun M13 => (pI 12 12 M13 a0 (0 : Int32)).bind fun M14 => (pI 12 13 M14 a0 (0 : Int32)).bind fun M15 => (pI 12 15 M15 a0 (0 : Int32)).bind fun M16 => (gI 12 18 M16 a0).bind fun v17 => (pI 12 19 M16 a0 ((1 : Int32) - v17)).bind fun M18 => (pI 12 20 M18 a0 (0 : Int32)).bind fun M19 => (iter (fun (s20 : Int32 × AM) => if (8 : Int32) ≤ s20.1 then some (.inr s20.2) else (gR 12 24 s20.2 a0).bind fun v22 => (gI 12 19 s20.2 a0).bind fun v23 => (wrI s20.2 v22 (((8 : Int32) * v23) + s20.1) (0 : Int32)).bind fun M24 => some (.inl ((s20.1 + (1 : Int32)), M24))) n ((0 : Int32), M19)).bind fun (e20 : AM) => (gR 12 25 e20 a0).bind fun v25 => (gI 12 19 e20 a0).bind fun v26 => (wrI e20 v25 v26 (0 : Int32)).bind fun M27 => (gR 12 43 M27 a0).bind fun v28 => (gI 12 19 M27 a0).bind fun v29 => (wrI M27 v28 ((2 : Int32) * v29) (0 : Int32)).bind fun M30 => (gR 12 43 M30 a0).bind fun v31 => (gI 12 19 M30 a0).bind fun v32 => (wrI M30 v31 (((2 : Int32) * v32) + (1 : Int32)) (0 : Int32)).bind fun M33 => (gI 12 19 M33 a0).bind fun v34 => (pI 12 46 M33 a0 ((150 : Int32) * v34)).bind fun M35 => (gI 12 19 M35 a0).bind fun v36 => (pI 12 53 M35 a0 ((420 : Int32) * v36)).bind fun M37 => (iter (fun (s38 : AM) => (gI 12 13 s38 a0).bind fun v39 => if v39 = 0 then (rcv 12 s38 a0 (F_X12_is n s38 a0 (0 : Int32))).bind fun v41 => if v41 = 0 then (rcv 12 s38 a0 (F_X12_tell n s38 a0)).bind fun M44 => some (.inl M44) else some (.inr s38) else some (.inr s38)) n M37).bind fun (e38 : AM) => (gI 12 13 e38 a0).bind fun v45 => jn (fun (u46 : Int32) => (pI 12 17 e38 a0 u46).bind fun M47 => (gI 12 13 M47 a0).bind fun v48 => if v48 ≤ 0 then (gI 12 15 M47 a0).bind fun v50 => if v50 ≤ 0 then (gI 12 19 M47 a0).bind fun v52 => (pI 12 18 M47 a0 v52).bind fun M53 => (pI 12 62 M53 a0 (0 : Int32)).bind fun M54 => (iter (fun (s55 : Int32 × AM) => if (3 : Int32) ≤ s55.1 then some (.inr s55.2) else (gR 12 88 s55.2 a0).bind fun v57 => (wrI s55.2 v57 s55.1 (-1 : Int32)).bind fun M58 => some (.inl ((s55.1 + (1 : Int32)), M58))) n ((0 : Int32), M54)).bind fun (e55 : AM) => some ((0 : Int32), e55) else (gI 12 15 M47 a0).bind fun v59 => some (v59, M47) else (gI 12 13 M47 a0).bind fun v60 => some (v60, M47)) fun j61 => if v45 ≤ 0 then (gI 12 15 e38 a0).bind fun v63 => if v63 ≤ 0 then j61 (-1 : Int32) else (gI 12 16 e38 a0).bind fun v65 => j61 v65 else (gI 12 14 e38 a0).bind fun v66 => j61 v66
set_option maxRecDepth 100000 in
set_option maxHeartbeats 4000000 in
theorem C_X12_read {n : Nat} {M : AM} {a0 : Nat} {o : (Int32 × AM)} (h : F_X12_read n M a0 = some o) : Cn yX12_read cX12_read 2 (some .int) 7 [.ref a0] M (some (.int o.1)) o.2 := by
  unfold F_X12_read at h
  refine Cn.of rfl (Nat.le_of_ble_eq_true rfl) ?_
  show G yX12_read cX12_read 2 (some .int) 7 0 [(0, .ref a0)] [] M (some (.int o.1)) o.2
  refine G.aload_n dX12_read_0 rfl rfl ?_
  refine G.aload_n dX12_read_1 rfl rfl ?_
  refine G.getI dX12_read_2 fkX12_222 fr12_2 h (fun v1 h => ?_)
  refine G.putI dX12_read_5 fkX12_229 nf12_4 ft12_4 h (fun M2 h => ?_)
  refine G.iconst (0 : Int32) dX12_read_8 ki_0 ?_
  refine G.istore_n (lv' := [(1, .int (0 : Int32)), (0, .ref a0)]) dX12_read_9 rfl (Nat.le_of_ble_eq_true rfl) rfl ?_
  refine G.sub (lv' := [(0, .ref a0), (1, .int (0 : Int32))]) [1, 0] rfl ?_
  refine loopE (fun (s3 : Int32 × AM) => G yX12_read cX12_read 2 (some .int) 7 10 [(0, .ref a0), (1, .int s3.1)] [] s3.2 (some (.int o.1)) o.2) (fun (e3 : AM) => G yX12_read cX12_read 2 (some .int) 7 36 [(0, .ref a0)] [] e3 (some (.int o.1)) o.2) h ?_ ?_
  · intro e3 h
    show G yX12_read cX12_read 2 (some .int) 7 36 [(0, .ref a0)] [] e3 (some (.int o.1)) o.2
    refine G.aload_n dX12_read_36 rfl rfl ?_
    refine G.iconst (0 : Int32) dX12_read_37 ki_0 ?_
    refine G.putI dX12_read_38 fkX12_222 nf12_2 ft12_2 h (fun M10 h => ?_)
    refine G.aload_n dX12_read_41 rfl rfl ?_
    refine G.callVv (ci := 12) [] [] dX12_read_42 lkX12_284 okX12_cut rfl (fun v hv => C_X12_cut hv) (Nat.le_of_ble_eq_true rfl) rfl rfl (Nat.le_of_ble_eq_true rfl) h (fun M12 h => ?_)
    refine G.aload_n dX12_read_45 rfl rfl ?_
    refine G.iconst (0 : Int32) dX12_read_46 ki_0 ?_
    refine G.putI dX12_read_47 fkX12_263 nf12_11 ft12_11 h (fun M13 h => ?_)
    refine G.aload_n dX12_read_50 rfl rfl ?_
    refine G.iconst (0 : Int32) dX12_read_51 ki_0 ?_
    refine G.putI dX12_read_52 fkX12_287 nf12_12 ft12_12 h (fun M14 h => ?_)
    refine G.aload_n dX12_read_55 rfl rfl ?_
    refine G.iconst (0 : Int32) dX12_read_56 ki_0 ?_
    refine G.putI dX12_read_57 fkX12_260 nf12_13 ft12_13 h (fun M15 h => ?_)
    refine G.aload_n dX12_read_60 rfl rfl ?_
    refine G.iconst (0 : Int32) dX12_read_61 ki_0 ?_
    refine G.putI dX12_read_62 fkX12_269 nf12_15 ft12_15 h (fun M16 h => ?_)
    refine G.aload_n dX12_read_65 rfl rfl ?_
    refine G.iconst (1 : Int32) dX12_read_66 ki_1 ?_
    refine G.aload_n dX12_read_67 rfl rfl ?_
    refine G.getI dX12_read_68 fkX12_290 fr12_18 h (fun v17 h => ?_)
    refine G.isub dX12_read_71 ?_
    refine G.putI dX12_read_72 fkX12_293 nf12_19 ft12_19 h (fun M18 h => ?_)
    refine G.aload_n dX12_read_75 rfl rfl ?_
    refine G.iconst (0 : Int32) dX12_read_76 ki_0 ?_
    refine G.putI dX12_read_77 fkX12_296 nf12_20 ft12_20 h (fun M19 h => ?_)
    refine G.iconst (0 : Int32) dX12_read_80 ki_0 ?_
    refine G.istore_n (lv' := [(1, .int (0 : Int32)), (0, .ref a0)]) dX12_read_81 rfl (Nat.le_of_ble_eq_true rfl) rfl ?_
    refine G.sub (lv' := [(0, .ref a0), (1, .int (0 : Int32))]) [1, 0] rfl ?_
    refine loopE (fun (s20 : Int32 × AM) => G yX12_read cX12_read 2 (some .int) 7 82 [(0, .ref a0), (1, .int s20.1)] [] s20.2 (some (.int o.1)) o.2) (fun (e20 : AM) => G yX12_read cX12_read 2 (some .int) 7 109 [(0, .ref a0)] [] e20 (some (.int o.1)) o.2) h ?_ ?_
    · intro e20 h
      show G yX12_read cX12_read 2 (some .int) 7 109 [(0, .ref a0)] [] e20 (some (.int o.1)) o.2
      refine G.aload_n dX12_read_109 rfl rfl ?_
      refine G.getR dX12_read_110 fkX12_52 fr12_25 h (fun v25 h => ?_)
      refine G.aload_n dX12_read_113 rfl rfl ?_
      refine G.getI dX12_read_114 fkX12_293 fr12_19 h (fun v26 h => ?_)
      refine G.iconst (0 : Int32) dX12_read_117 ki_0 ?_
      refine G.iast dX12_read_118 h (fun M27 h => ?_)
      refine G.aload_n dX12_read_119 rfl rfl ?_
      refine G.getR dX12_read_120 fkX12_106 fr12_43 h (fun v28 h => ?_)
      refine G.iconst (2 : Int32) dX12_read_123 ki_2 ?_
      refine G.aload_n dX12_read_124 rfl rfl ?_
      refine G.getI dX12_read_125 fkX12_293 fr12_19 h (fun v29 h => ?_)
      refine G.imul dX12_read_128 ?_
      refine G.iconst (0 : Int32) dX12_read_129 ki_0 ?_
      refine G.iast dX12_read_130 h (fun M30 h => ?_)
      refine G.aload_n dX12_read_131 rfl rfl ?_
      refine G.getR dX12_read_132 fkX12_106 fr12_43 h (fun v31 h => ?_)
      refine G.iconst (2 : Int32) dX12_read_135 ki_2 ?_
      refine G.aload_n dX12_read_136 rfl rfl ?_
      refine G.getI dX12_read_137 fkX12_293 fr12_19 h (fun v32 h => ?_)
      refine G.imul dX12_read_140 ?_
      refine G.iconst (1 : Int32) dX12_read_141 ki_1 ?_
      refine G.iadd dX12_read_142 ?_
      refine G.iconst (0 : Int32) dX12_read_143 ki_0 ?_
      refine G.iast dX12_read_144 h (fun M33 h => ?_)
      refine G.aload_n dX12_read_145 rfl rfl ?_
      refine G.sipush (150 : Int32) dX12_read_146 ks_150 ?_
      refine G.aload_n dX12_read_149 rfl rfl ?_
      refine G.getI dX12_read_150 fkX12_293 fr12_19 h (fun v34 h => ?_)
      refine G.imul dX12_read_153 ?_
      refine G.putI dX12_read_154 fkX12_299 nf12_46 ft12_46 h (fun M35 h => ?_)
      refine G.aload_n dX12_read_157 rfl rfl ?_
      refine G.sipush (420 : Int32) dX12_read_158 ks_420 ?_
      refine G.aload_n dX12_read_161 rfl rfl ?_
      refine G.getI dX12_read_162 fkX12_293 fr12_19 h (fun v36 h => ?_)
      refine G.imul dX12_read_165 ?_
      refine G.putI dX12_read_166 fkX12_302 nf12_53 ft12_53 h (fun M37 h => ?_)
      refine G.sub (lv' := [(0, .ref a0)]) [0] rfl ?_
      refine loopE (fun (s38 : AM) => G yX12_read cX12_read 2 (some .int) 7 169 [(0, .ref a0)] [] s38 (some (.int o.1)) o.2) (fun (e38 : AM) => G yX12_read cX12_read 2 (some .int) 7 191 [(0, .ref a0)] [] e38 (some (.int o.1)) o.2) h ?_ ?_
      · intro e38 h
        show G yX12_read cX12_read 2 (some .int) 7 191 [(0, .ref a0)] [] e38 (some (.int o.1)) o.2
        refine G.aload_n dX12_read_191 rfl rfl ?_
        refine G.aload_n dX12_read_192 rfl rfl ?_
        refine G.getI dX12_read_193 fkX12_260 fr12_13 h (fun v45 h => ?_)
        refine jn_elim (fun j61 => ∀ (u46 : Int32), j61 u46 = some o → G yX12_read cX12_read 2 (some .int) 7 221 [(0, .ref a0)] [.int u46, .ref a0] e38 (some (.int o.1)) o.2) h ?_ ?_
        · intro u46 h
          refine G.putI dX12_read_221 fkX12_37 nf12_17 ft12_17 h (fun M47 h => ?_)
          refine G.aload_n dX12_read_224 rfl rfl ?_
          refine G.getI dX12_read_225 fkX12_260 fr12_13 h (fun v48 h => ?_)
          refine G.if_le 236 dX12_read_228 (by decide) h (fun c49 h => ?_) (fun c49 h => ?_)
          · refine G.aload_n dX12_read_236 rfl rfl ?_
            refine G.getI dX12_read_237 fkX12_269 fr12_15 h (fun v50 h => ?_)
            refine G.if_le 248 dX12_read_240 (by decide) h (fun c51 h => ?_) (fun c51 h => ?_)
            · refine G.aload_n dX12_read_248 rfl rfl ?_
              refine G.aload_n dX12_read_249 rfl rfl ?_
              refine G.getI dX12_read_250 fkX12_293 fr12_19 h (fun v52 h => ?_)
              refine G.putI dX12_read_253 fkX12_290 nf12_18 ft12_18 h (fun M53 h => ?_)
              refine G.aload_n dX12_read_256 rfl rfl ?_
              refine G.iconst (0 : Int32) dX12_read_257 ki_0 ?_
              refine G.putI dX12_read_258 fkX12_308 nf12_62 ft12_62 h (fun M54 h => ?_)
              refine G.iconst (0 : Int32) dX12_read_261 ki_0 ?_
              refine G.istore_n (lv' := [(1, .int (0 : Int32)), (0, .ref a0)]) dX12_read_262 rfl (Nat.le_of_ble_eq_true rfl) rfl ?_
              refine G.sub (lv' := [(0, .ref a0), (1, .int (0 : Int32))]) [1, 0] rfl ?_
              refine loopE (fun (s55 : Int32 × AM) => G yX12_read cX12_read 2 (some .int) 7 263 [(0, .ref a0), (1, .int s55.1)] [] s55.2 (some (.int o.1)) o.2) (fun (e55 : AM) => G yX12_read cX12_read 2 (some .int) 7 281 [] [] e55 (some (.int o.1)) o.2) h ?_ ?_
              · intro e55 h
                show G yX12_read cX12_read 2 (some .int) 7 281 [] [] e55 (some (.int o.1)) o.2
                refine G.iconst (0 : Int32) dX12_read_281 ki_0 ?_
                exact G.iretW dX12_read_282 rfl (rfl) h
              · intro s55 x55 h K55
                show G yX12_read cX12_read 2 (some .int) 7 263 [(0, .ref a0), (1, .int s55.1)] [] s55.2 (some (.int o.1)) o.2
                refine G.iload_n dX12_read_263 rfl rfl ?_
                refine G.iconst (3 : Int32) dX12_read_264 ki_3 ?_
                refine G.icmp_ge 281 dX12_read_265 (by decide) h (fun c56 h => ?_) (fun c56 h => ?_)
                · refine G.sub (lv' := []) [] rfl ?_
                  have h := leafR' h K55
                  exact h
                · refine G.aload_n dX12_read_268 rfl rfl ?_
                  refine G.getR dX12_read_269 fkX12_200 fr12_88 h (fun v57 h => ?_)
                  refine G.iload_n dX12_read_272 rfl rfl ?_
                  refine G.iconst (-1 : Int32) dX12_read_273 ki_m1 ?_
                  refine G.iast dX12_read_274 h (fun M58 h => ?_)
                  refine G.iinc s55.1 (w := (s55.1 + (1 : Int32))) (lv' := [(1, .int (s55.1 + (1 : Int32))), (0, .ref a0)]) dX12_read_275 rfl rfl (Nat.le_of_ble_eq_true rfl) rfl ?_
                  refine G.goto 263 dX12_read_278 (by decide) ?_
                  refine G.sub (lv' := [(0, .ref a0), (1, .int (s55.1 + (1 : Int32)))]) [1, 0] rfl ?_
                  have h := leafL' h K55
                  exact h
            · refine G.aload_n dX12_read_243 rfl rfl ?_
              refine G.getI dX12_read_244 fkX12_269 fr12_15 h (fun v59 h => ?_)
              exact G.iretW dX12_read_247 rfl (rfl) h
          · refine G.aload_n dX12_read_231 rfl rfl ?_
            refine G.getI dX12_read_232 fkX12_260 fr12_13 h (fun v60 h => ?_)
            exact G.iretW dX12_read_235 rfl (rfl) h
        · intro j61 Jj61 h
          refine G.if_le 206 dX12_read_196 (by decide) h (fun c62 h => ?_) (fun c62 h => ?_)
          · refine G.aload_n dX12_read_206 rfl rfl ?_
            refine G.getI dX12_read_207 fkX12_269 fr12_15 h (fun v63 h => ?_)
            refine G.if_le 220 dX12_read_210 (by decide) h (fun c64 h => ?_) (fun c64 h => ?_)
            · refine G.iconst (-1 : Int32) dX12_read_220 ki_m1 ?_
              refine G.sub (lv' := [(0, .ref a0)]) [0] rfl ?_
              exact Jj61 _ h
            · refine G.aload_n dX12_read_213 rfl rfl ?_
              refine G.getI dX12_read_214 fkX12_272 fr12_16 h (fun v65 h => ?_)
              refine G.goto 221 dX12_read_217 (by decide) ?_
              refine G.sub (lv' := [(0, .ref a0)]) [0] rfl ?_
              exact Jj61 _ h
          · refine G.aload_n dX12_read_199 rfl rfl ?_
            refine G.getI dX12_read_200 fkX12_266 fr12_14 h (fun v66 h => ?_)
            refine G.goto 221 dX12_read_203 (by decide) ?_
            refine G.sub (lv' := [(0, .ref a0)]) [0] rfl ?_
            exact Jj61 _ h
      · intro s38 x38 h K38
        show G yX12_read cX12_read 2 (some .int) 7 169 [(0, .ref a0)] [] s38 (some (.int o.1)) o.2
        refine G.aload_n dX12_read_169 rfl rfl ?_
        refine G.getI dX12_read_170 fkX12_260 fr12_13 h (fun v39 h => ?_)
        refine G.if_ne 191 dX12_read_173 (by decide) h (fun c40 h => ?_) (fun c40 h => ?_)
        · refine G.aload_n dX12_read_176 rfl rfl ?_
          refine G.iconst (0 : Int32) dX12_read_177 ki_0 ?_
          refine G.callVi (ci := 12) [.int (0 : Int32)] [] dX12_read_178 lkX12_278 okX12_is rfl (fun v hv => C_X12_is hv) (Nat.le_of_ble_eq_true rfl) rfl rfl (Nat.le_of_ble_eq_true rfl) h (fun v41 h => ?_)
          refine G.if_ne 191 dX12_read_181 (by decide) h (fun c42 h => ?_) (fun c42 h => ?_)
          · refine G.aload_n dX12_read_184 rfl rfl ?_
            refine G.callVv (ci := 12) [] [] dX12_read_185 lkX12_305 okX12_tell rfl (fun v hv => C_X12_tell hv) (Nat.le_of_ble_eq_true rfl) rfl rfl (Nat.le_of_ble_eq_true rfl) h (fun M44 h => ?_)
            refine G.goto 169 dX12_read_188 (by decide) ?_
            refine G.sub (lv' := [(0, .ref a0)]) [0] rfl ?_
            have h := leafL' h K38
            exact h
          · refine G.sub (lv' := [(0, .ref a0)]) [0] rfl ?_
            have h := leafR' h K38
            exact h
        · refine G.sub (lv' := [(0, .ref a0)]) [0] rfl ?_
          have h := leafR' h K38
          exact h
    · intro s20 x20 h K20
      show G yX12_read cX12_read 2 (some .int) 7 82 [(0, .ref a0), (1, .int s20.1)] [] s20.2 (some (.int o.1)) o.2
      refine G.iload_n dX12_read_82 rfl rfl ?_
      refine G.bipush (8 : Int32) dX12_read_83 kb_8 ?_
      refine G.icmp_ge 109 dX12_read_85 (by decide) h (fun c21 h => ?_) (fun c21 h => ?_)
      · refine G.sub (lv' := [(0, .ref a0)]) [0] rfl ?_
        have h := leafR' h K20
        exact h
      · refine G.aload_n dX12_read_88 rfl rfl ?_
        refine G.getR dX12_read_89 fkX12_49 fr12_24 h (fun v22 h => ?_)
        refine G.bipush (8 : Int32) dX12_read_92 kb_8 ?_
        refine G.aload_n dX12_read_94 rfl rfl ?_
        refine G.getI dX12_read_95 fkX12_293 fr12_19 h (fun v23 h => ?_)
        refine G.imul dX12_read_98 ?_
        refine G.iload_n dX12_read_99 rfl rfl ?_
        refine G.iadd dX12_read_100 ?_
        refine G.iconst (0 : Int32) dX12_read_101 ki_0 ?_
        refine G.iast dX12_read_102 h (fun M24 h => ?_)
        refine G.iinc s20.1 (w := (s20.1 + (1 : Int32))) (lv' := [(1, .int (s20.1 + (1 : Int32))), (0, .ref a0)]) dX12_read_103 rfl rfl (Nat.le_of_ble_eq_true rfl) rfl ?_
        refine G.goto 82 dX12_read_106 (by decide) ?_
        refine G.sub (lv' := [(0, .ref a0), (1, .int (s20.1 + (1 : Int32)))]) [1, 0] rfl ?_
        have h := leafL' h K20
        exact h
  · intro s3 x3 h K3
    show G yX12_read cX12_read 2 (some .int) 7 10 [(0, .ref a0), (1, .int s3.1)] [] s3.2 (some (.int o.1)) o.2
    refine G.iload_n dX12_read_10 rfl rfl ?_
    refine G.aload_n dX12_read_11 rfl rfl ?_
    refine G.getI dX12_read_12 fkX12_229 fr12_4 h (fun v4 h => ?_)
    refine G.icmp_ge 36 dX12_read_15 (by decide) h (fun c5 h => ?_) (fun c5 h => ?_)
    · refine G.sub (lv' := [(0, .ref a0)]) [0] rfl ?_
      have h := leafR' h K3
      exact h
    · refine G.aload_n dX12_read_18 rfl rfl ?_
      refine G.getR dX12_read_19 fkX12_17 fr12_3 h (fun v6 h => ?_)
      refine G.iload_n dX12_read_22 rfl rfl ?_
      refine G.aload_n dX12_read_23 rfl rfl ?_
      refine G.getR dX12_read_24 fkX12_13 fr12_1 h (fun v7 h => ?_)
      refine G.iload_n dX12_read_27 rfl rfl ?_
      refine G.bald dX12_read_28 h (fun v8 h => ?_)
      refine G.bast dX12_read_29 h (fun M9 h => ?_)
      refine G.iinc s3.1 (w := (s3.1 + (1 : Int32))) (lv' := [(1, .int (s3.1 + (1 : Int32))), (0, .ref a0)]) dX12_read_30 rfl rfl (Nat.le_of_ble_eq_true rfl) rfl ?_
      refine G.goto 10 dX12_read_33 (by decide) ?_
      refine G.sub (lv' := [(0, .ref a0), (1, .int (s3.1 + (1 : Int32)))]) [1, 0] rfl ?_
      have h := leafL' h K3
      exact h
-- OnlyUpwardModel.place()I
set_option maxRecDepth 100000 in
set_option maxHeartbeats 4000000 in
def F_X12_place (n : Nat) (M : AM) (a0 : Nat) : Option Int32 :=
  (gI 12 17 M a0).bind fun v1 => some v1
set_option maxRecDepth 100000 in
set_option maxHeartbeats 4000000 in
theorem C_X12_place {n : Nat} {M : AM} {a0 : Nat} {o : Int32} (h : F_X12_place n M a0 = some o) : Cn yX12_place cX12_place 1 (some .int) 0 [.ref a0] M (some (.int o)) M := by
  unfold F_X12_place at h
  refine Cn.of rfl (Nat.le_of_ble_eq_true rfl) ?_
  show G yX12_place cX12_place 1 (some .int) 0 0 [(0, .ref a0)] [] M (some (.int o)) M
  refine G.aload_n dX12_place_0 rfl rfl ?_
  refine G.getI dX12_place_1 fkX12_37 fr12_17 h (fun v1 h => ?_)
  exact G.iret dX12_place_4 rfl (rfl) h
-- OnlyUpwardModel.has(I)I
set_option maxRecDepth 100000 in
set_option maxHeartbeats 4000000 in
def F_X12_has (n : Nat) (M : AM) (a0 : Nat) (a1 : Int32) : Option Int32 :=
  (gR 12 24 M a0).bind fun v1 => (gI 12 18 M a0).bind fun v2 => (rdI M v1 (((8 : Int32) * v2) + a1)).bind fun v3 => some v3
set_option maxRecDepth 100000 in
set_option maxHeartbeats 4000000 in
theorem C_X12_has {n : Nat} {M : AM} {a0 : Nat} {a1 : Int32} {o : Int32} (h : F_X12_has n M a0 a1 = some o) : Cn yX12_has cX12_has 2 (some .int) 0 [.ref a0, .int a1] M (some (.int o)) M := by
  unfold F_X12_has at h
  refine Cn.of rfl (Nat.le_of_ble_eq_true rfl) ?_
  show G yX12_has cX12_has 2 (some .int) 0 0 [(0, .ref a0), (1, .int a1)] [] M (some (.int o)) M
  refine G.aload_n dX12_has_0 rfl rfl ?_
  refine G.getR dX12_has_1 fkX12_49 fr12_24 h (fun v1 h => ?_)
  refine G.bipush (8 : Int32) dX12_has_4 kb_8 ?_
  refine G.aload_n dX12_has_6 rfl rfl ?_
  refine G.getI dX12_has_7 fkX12_290 fr12_18 h (fun v2 h => ?_)
  refine G.imul dX12_has_10 ?_
  refine G.iload_n dX12_has_11 rfl rfl ?_
  refine G.iadd dX12_has_12 ?_
  refine G.iald dX12_has_13 h (fun v3 h => ?_)
  exact G.iret dX12_has_14 rfl (rfl) h
-- OnlyUpwardModel.in(III)Z
set_option maxRecDepth 100000 in
set_option maxHeartbeats 4000000 in
def F_X12_in (n : Nat) (M : AM) (a0 : Int32) (a1 : Int32) (a2 : Int32) : Option Int32 :=
  if a0 < a1 then some (0 : Int32) else if a2 < a0 then some (0 : Int32) else some (1 : Int32)
set_option maxRecDepth 100000 in
set_option maxHeartbeats 4000000 in
theorem C_X12_in {n : Nat} {M : AM} {a0 : Int32} {a1 : Int32} {a2 : Int32} {o : Int32} (h : F_X12_in n M a0 a1 a2 = some o) : Cn yX12_in cX12_in 3 (some .boolean) 0 [.int a0, .int a1, .int a2] M (some (.int o)) M := by
  unfold F_X12_in at h
  refine Cn.of rfl (Nat.le_of_ble_eq_true rfl) ?_
  show G yX12_in cX12_in 3 (some .boolean) 0 0 [(0, .int a0), (1, .int a1), (2, .int a2)] [] M (some (.int o)) M
  refine G.iload_n dX12_in_0 rfl rfl ?_
  refine G.iload_n dX12_in_1 rfl rfl ?_
  refine G.icmp_lt 14 dX12_in_2 (by decide) h (fun c1 h => ?_) (fun c1 h => ?_)
  · refine G.iconst (0 : Int32) dX12_in_14 ki_0 ?_
    exact G.iret dX12_in_15 rfl (by decide) h
  · refine G.iload_n dX12_in_5 rfl rfl ?_
    refine G.iload_n dX12_in_6 rfl rfl ?_
    refine G.icmp_gt 14 dX12_in_7 (by decide) h (fun c2 h => ?_) (fun c2 h => ?_)
    · refine G.iconst (0 : Int32) dX12_in_14 ki_0 ?_
      exact G.iret dX12_in_15 rfl (by decide) h
    · refine G.iconst (1 : Int32) dX12_in_10 ki_1 ?_
      refine G.goto 15 dX12_in_11 (by decide) ?_
      exact G.iret dX12_in_15 rfl (by decide) h
-- OnlyUpwardModel.isPerson(I)Z
set_option maxRecDepth 100000 in
set_option maxHeartbeats 4000000 in
def F_X12_isPerson (n : Nat) (M : AM) (a0 : Nat) (a1 : Int32) : Option Int32 :=
  (rcv 12 M a0 (F_X12_has n M a0 (1 : Int32))).bind fun v1 => (F_X12_in n M a1 (0 : Int32) (v1 - (1 : Int32))).bind fun v2 => gd (narrow .boolean (.int v2) = .int v2) (some v2)
set_option maxRecDepth 100000 in
set_option maxHeartbeats 4000000 in
theorem C_X12_isPerson {n : Nat} {M : AM} {a0 : Nat} {a1 : Int32} {o : Int32} (h : F_X12_isPerson n M a0 a1 = some o) : Cn yX12_isPerson cX12_isPerson 2 (some .boolean) 1 [.ref a0, .int a1] M (some (.int o)) M := by
  unfold F_X12_isPerson at h
  refine Cn.of rfl (Nat.le_of_ble_eq_true rfl) ?_
  show G yX12_isPerson cX12_isPerson 2 (some .boolean) 1 0 [(0, .ref a0), (1, .int a1)] [] M (some (.int o)) M
  refine G.iload_n dX12_isPerson_0 rfl rfl ?_
  refine G.iconst (0 : Int32) dX12_isPerson_1 ki_0 ?_
  refine G.aload_n dX12_isPerson_2 rfl rfl ?_
  refine G.iconst (1 : Int32) dX12_isPerson_3 ki_1 ?_
  refine G.callVi (ci := 12) [.int (1 : Int32)] [.int (0 : Int32), .int a1] dX12_isPerson_4 lkX12_383 okX12_has rfl (fun v hv => C_X12_has hv) (Nat.le_of_ble_eq_true rfl) rfl rfl (Nat.le_of_ble_eq_true rfl) h (fun v1 h => ?_)
  refine G.iconst (1 : Int32) dX12_isPerson_7 ki_1 ?_
  refine G.isub dX12_isPerson_8 ?_
  refine G.callSi [.int a1, .int (0 : Int32), .int (v1 - (1 : Int32))] [] dX12_isPerson_9 lkX12_386 okX12_in (fun v hv => C_X12_in hv) (Nat.le_of_ble_eq_true rfl) rfl rfl (Nat.le_of_ble_eq_true rfl) h (fun v2 h => ?_)
  refine gd_elim h (fun c3 h => ?_)
  exact G.iret dX12_isPerson_12 rfl (c3) h
-- OnlyUpwardModel.isHour(I)Z
set_option maxRecDepth 100000 in
set_option maxHeartbeats 4000000 in
def F_X12_isHour (n : Nat) (M : AM) (a0 : Int32) : Option Int32 :=
  (F_X12_in n M a0 (0 : Int32) (23 : Int32)).bind fun v1 => gd (narrow .boolean (.int v1) = .int v1) (some v1)
set_option maxRecDepth 100000 in
set_option maxHeartbeats 4000000 in
theorem C_X12_isHour {n : Nat} {M : AM} {a0 : Int32} {o : Int32} (h : F_X12_isHour n M a0 = some o) : Cn yX12_isHour cX12_isHour 1 (some .boolean) 1 [.int a0] M (some (.int o)) M := by
  unfold F_X12_isHour at h
  refine Cn.of rfl (Nat.le_of_ble_eq_true rfl) ?_
  show G yX12_isHour cX12_isHour 1 (some .boolean) 1 0 [(0, .int a0)] [] M (some (.int o)) M
  refine G.iload_n dX12_isHour_0 rfl rfl ?_
  refine G.iconst (0 : Int32) dX12_isHour_1 ki_0 ?_
  refine G.bipush (23 : Int32) dX12_isHour_2 kb_23 ?_
  refine G.callSi [.int a0, .int (0 : Int32), .int (23 : Int32)] [] dX12_isHour_4 lkX12_386 okX12_in (fun v hv => C_X12_in hv) (Nat.le_of_ble_eq_true rfl) rfl rfl (Nat.le_of_ble_eq_true rfl) h (fun v1 h => ?_)
  refine gd_elim h (fun c2 h => ?_)
  exact G.iret dX12_isHour_7 rfl (c2) h
-- OnlyUpwardModel.ageAt(II)I
set_option maxRecDepth 100000 in
set_option maxHeartbeats 4000000 in
def F_X12_ageAt (n : Nat) (M : AM) (a0 : Nat) (a1 : Int32) (a2 : Int32) : Option Int32 :=
  (gR 12 26 M a0).bind fun v1 => (gI 12 18 M a0).bind fun v2 => (rdI M v1 (((10 : Int32) * v2) + a1)).bind fun v3 => (gR 12 27 M a0).bind fun v4 => (gI 12 18 M a0).bind fun v5 => (rdI M v4 (((10 : Int32) * v5) + a1)).bind fun v6 => jn (fun (u7 : Int32) => some (v3 + u7)) fun j8 => if a2 < v6 then j8 (0 : Int32) else j8 (1 : Int32)
set_option maxRecDepth 100000 in
set_option maxHeartbeats 4000000 in
theorem C_X12_ageAt {n : Nat} {M : AM} {a0 : Nat} {a1 : Int32} {a2 : Int32} {o : Int32} (h : F_X12_ageAt n M a0 a1 a2 = some o) : Cn yX12_ageAt cX12_ageAt 3 (some .int) 0 [.ref a0, .int a1, .int a2] M (some (.int o)) M := by
  unfold F_X12_ageAt at h
  refine Cn.of rfl (Nat.le_of_ble_eq_true rfl) ?_
  show G yX12_ageAt cX12_ageAt 3 (some .int) 0 0 [(0, .ref a0), (1, .int a1), (2, .int a2)] [] M (some (.int o)) M
  refine G.aload_n dX12_ageAt_0 rfl rfl ?_
  refine G.getR dX12_ageAt_1 fkX12_55 fr12_26 h (fun v1 h => ?_)
  refine G.bipush (10 : Int32) dX12_ageAt_4 kb_10 ?_
  refine G.aload_n dX12_ageAt_6 rfl rfl ?_
  refine G.getI dX12_ageAt_7 fkX12_290 fr12_18 h (fun v2 h => ?_)
  refine G.imul dX12_ageAt_10 ?_
  refine G.iload_n dX12_ageAt_11 rfl rfl ?_
  refine G.iadd dX12_ageAt_12 ?_
  refine G.iald dX12_ageAt_13 h (fun v3 h => ?_)
  refine G.iload_n dX12_ageAt_14 rfl rfl ?_
  refine G.aload_n dX12_ageAt_15 rfl rfl ?_
  refine G.getR dX12_ageAt_16 fkX12_58 fr12_27 h (fun v4 h => ?_)
  refine G.bipush (10 : Int32) dX12_ageAt_19 kb_10 ?_
  refine G.aload_n dX12_ageAt_21 rfl rfl ?_
  refine G.getI dX12_ageAt_22 fkX12_290 fr12_18 h (fun v5 h => ?_)
  refine G.imul dX12_ageAt_25 ?_
  refine G.iload_n dX12_ageAt_26 rfl rfl ?_
  refine G.iadd dX12_ageAt_27 ?_
  refine G.iald dX12_ageAt_28 h (fun v6 h => ?_)
  refine jn_elim (fun j8 => ∀ (u7 : Int32), j8 u7 = some o → G yX12_ageAt cX12_ageAt 3 (some .int) 0 37 [] [.int u7, .int v3] M (some (.int o)) M) h ?_ ?_
  · intro u7 h
    refine G.iadd dX12_ageAt_37 ?_
    exact G.iret dX12_ageAt_38 rfl (rfl) h
  · intro j8 Jj8 h
    refine G.icmp_lt 36 dX12_ageAt_29 (by decide) h (fun c9 h => ?_) (fun c9 h => ?_)
    · refine G.iconst (0 : Int32) dX12_ageAt_36 ki_0 ?_
      refine G.sub (lv' := []) [] rfl ?_
      exact Jj8 _ h
    · refine G.iconst (1 : Int32) dX12_ageAt_32 ki_1 ?_
      refine G.goto 37 dX12_ageAt_33 (by decide) ?_
      refine G.sub (lv' := []) [] rfl ?_
      exact Jj8 _ h
-- OnlyUpwardModel.age(II)I
set_option maxRecDepth 100000 in
set_option maxHeartbeats 4000000 in
def F_X12_age (n : Nat) (M : AM) (a0 : Nat) (a1 : Int32) (a2 : Int32) : Option Int32 :=
  (rcv 12 M a0 (F_X12_isPerson n M a0 a1)).bind fun v1 => if v1 = 0 then some (-1 : Int32) else (F_X12_isHour n M a2).bind fun v3 => if v3 = 0 then some (-1 : Int32) else (rcv 12 M a0 (F_X12_ageAt n M a0 a1 a2)).bind fun v5 => some v5
set_option maxRecDepth 100000 in
set_option maxHeartbeats 4000000 in
theorem C_X12_age {n : Nat} {M : AM} {a0 : Nat} {a1 : Int32} {a2 : Int32} {o : Int32} (h : F_X12_age n M a0 a1 a2 = some o) : Cn yX12_age cX12_age 3 (some .int) 2 [.ref a0, .int a1, .int a2] M (some (.int o)) M := by
  unfold F_X12_age at h
  refine Cn.of rfl (Nat.le_of_ble_eq_true rfl) ?_
  show G yX12_age cX12_age 3 (some .int) 2 0 [(0, .ref a0), (1, .int a1), (2, .int a2)] [] M (some (.int o)) M
  refine G.aload_n dX12_age_0 rfl rfl ?_
  refine G.iload_n dX12_age_1 rfl rfl ?_
  refine G.callVi (ci := 12) [.int a1] [] dX12_age_2 lkX12_415 okX12_isPerson rfl (fun v hv => C_X12_isPerson hv) (Nat.le_of_ble_eq_true rfl) rfl rfl (Nat.le_of_ble_eq_true rfl) h (fun v1 h => ?_)
  refine G.if_eq 24 dX12_age_5 (by decide) h (fun c2 h => ?_) (fun c2 h => ?_)
  · refine G.iconst (-1 : Int32) dX12_age_24 ki_m1 ?_
    exact G.iret dX12_age_25 rfl (rfl) h
  · refine G.iload_n dX12_age_8 rfl rfl ?_
    refine G.callSi [.int a2] [] dX12_age_9 lkX12_418 okX12_isHour (fun v hv => C_X12_isHour hv) (Nat.le_of_ble_eq_true rfl) rfl rfl (Nat.le_of_ble_eq_true rfl) h (fun v3 h => ?_)
    refine G.if_eq 24 dX12_age_12 (by decide) h (fun c4 h => ?_) (fun c4 h => ?_)
    · refine G.iconst (-1 : Int32) dX12_age_24 ki_m1 ?_
      exact G.iret dX12_age_25 rfl (rfl) h
    · refine G.aload_n dX12_age_15 rfl rfl ?_
      refine G.iload_n dX12_age_16 rfl rfl ?_
      refine G.iload_n dX12_age_17 rfl rfl ?_
      refine G.callVi (ci := 12) [.int a1, .int a2] [] dX12_age_18 lkX12_403 okX12_ageAt rfl (fun v hv => C_X12_ageAt hv) (Nat.le_of_ble_eq_true rfl) rfl rfl (Nat.le_of_ble_eq_true rfl) h (fun v5 h => ?_)
      refine G.goto 25 dX12_age_21 (by decide) ?_
      exact G.iret dX12_age_25 rfl (rfl) h
-- OnlyUpwardModel.isDead(I)Z
set_option maxRecDepth 100000 in
set_option maxHeartbeats 4000000 in
def F_X12_isDead (n : Nat) (M : AM) (a0 : Nat) (a1 : Int32) : Option Int32 :=
  (gI 12 61 M a0).bind fun v1 => if ((v1 >>> (a1 &&& 31)) &&& (1 : Int32)) = (1 : Int32) then some (1 : Int32) else some (0 : Int32)
set_option maxRecDepth 100000 in
set_option maxHeartbeats 4000000 in
theorem C_X12_isDead {n : Nat} {M : AM} {a0 : Nat} {a1 : Int32} {o : Int32} (h : F_X12_isDead n M a0 a1 = some o) : Cn yX12_isDead cX12_isDead 2 (some .boolean) 0 [.ref a0, .int a1] M (some (.int o)) M := by
  unfold F_X12_isDead at h
  refine Cn.of rfl (Nat.le_of_ble_eq_true rfl) ?_
  show G yX12_isDead cX12_isDead 2 (some .boolean) 0 0 [(0, .ref a0), (1, .int a1)] [] M (some (.int o)) M
  refine G.aload_n dX12_isDead_0 rfl rfl ?_
  refine G.getI dX12_isDead_1 fkX12_390 fr12_61 h (fun v1 h => ?_)
  refine G.iload_n dX12_isDead_4 rfl rfl ?_
  refine G.ishr dX12_isDead_5 ?_
  refine G.iconst (1 : Int32) dX12_isDead_6 ki_1 ?_
  refine G.iand dX12_isDead_7 ?_
  refine G.iconst (1 : Int32) dX12_isDead_8 ki_1 ?_
  refine G.icmp_ne 16 dX12_isDead_9 (by decide) h (fun c2 h => ?_) (fun c2 h => ?_)
  · refine G.iconst (1 : Int32) dX12_isDead_12 ki_1 ?_
    refine G.goto 17 dX12_isDead_13 (by decide) ?_
    exact G.iret dX12_isDead_17 rfl (by decide) h
  · refine G.iconst (0 : Int32) dX12_isDead_16 ki_0 ?_
    exact G.iret dX12_isDead_17 rfl (by decide) h
-- OnlyUpwardModel.placeOf(II)I
set_option maxRecDepth 100000 in
set_option maxHeartbeats 4000000 in
def F_X12_placeOf (n : Nat) (M : AM) (a0 : Nat) (a1 : Int32) (a2 : Int32) : Option Int32 :=
  (rcv 12 M a0 (F_X12_isDead n M a0 a1)).bind fun v1 => if v1 = 0 then (rcv 12 M a0 (F_X12_has n M a0 (0 : Int32))).bind fun v3 => if v3 = 0 then some (-2 : Int32) else (iter (fun (s5 : Int32 × Int32) => (rcv 12 M a0 (F_X12_has n M a0 (4 : Int32))).bind fun v6 => if v6 ≤ s5.2 then some (.inr s5.1) else (gI 12 18 M a0).bind fun v8 => (gR 12 31 M a0).bind fun v9 => (rdI M v9 (((20 : Int32) * v8) + s5.2)).bind fun v10 => jn (fun (u11 : Int32) => some (.inl (u11, (s5.2 + (1 : Int32))))) fun j12 => if v10 = a1 then (gR 12 33 M a0).bind fun v14 => (rdI M v14 (((20 : Int32) * v8) + s5.2)).bind fun v15 => (gR 12 34 M a0).bind fun v16 => (rdI M v16 (((20 : Int32) * v8) + s5.2)).bind fun v17 => (F_X12_in n M a2 v15 v17).bind fun v18 => if v18 = 0 then j12 s5.1 else (gR 12 32 M a0).bind fun v20 => (rdI M v20 (((20 : Int32) * v8) + s5.2)).bind fun v21 => j12 v21 else j12 s5.1) n ((0 : Int32), (0 : Int32))).bind fun (e5 : Int32) => some e5 else some (-2 : Int32)
set_option maxRecDepth 100000 in
set_option maxHeartbeats 4000000 in
theorem C_X12_placeOf {n : Nat} {M : AM} {a0 : Nat} {a1 : Int32} {a2 : Int32} {o : Int32} (h : F_X12_placeOf n M a0 a1 a2 = some o) : Cn yX12_placeOf cX12_placeOf 6 (some .int) 1 [.ref a0, .int a1, .int a2] M (some (.int o)) M := by
  unfold F_X12_placeOf at h
  refine Cn.of rfl (Nat.le_of_ble_eq_true rfl) ?_
  show G yX12_placeOf cX12_placeOf 6 (some .int) 1 0 [(0, .ref a0), (1, .int a1), (2, .int a2)] [] M (some (.int o)) M
  refine G.aload_n dX12_placeOf_0 rfl rfl ?_
  refine G.iload_n dX12_placeOf_1 rfl rfl ?_
  refine G.callVi (ci := 12) [.int a1] [] dX12_placeOf_2 lkX12_393 okX12_isDead rfl (fun v hv => C_X12_isDead hv) (Nat.le_of_ble_eq_true rfl) rfl rfl (Nat.le_of_ble_eq_true rfl) h (fun v1 h => ?_)
  refine G.if_ne 16 dX12_placeOf_5 (by decide) h (fun c2 h => ?_) (fun c2 h => ?_)
  · refine G.aload_n dX12_placeOf_8 rfl rfl ?_
    refine G.iconst (0 : Int32) dX12_placeOf_9 ki_0 ?_
    refine G.callVi (ci := 12) [.int (0 : Int32)] [] dX12_placeOf_10 lkX12_383 okX12_has rfl (fun v hv => C_X12_has hv) (Nat.le_of_ble_eq_true rfl) rfl rfl (Nat.le_of_ble_eq_true rfl) h (fun v3 h => ?_)
    refine G.if_ne 19 dX12_placeOf_13 (by decide) h (fun c4 h => ?_) (fun c4 h => ?_)
    · refine G.bipush (-2 : Int32) dX12_placeOf_16 kb_m2 ?_
      exact G.iret dX12_placeOf_18 rfl (rfl) h
    · refine G.iconst (0 : Int32) dX12_placeOf_19 ki_0 ?_
      refine G.istore_n (lv' := [(3, .int (0 : Int32)), (0, .ref a0), (1, .int a1), (2, .int a2)]) dX12_placeOf_20 rfl (Nat.le_of_ble_eq_true rfl) rfl ?_
      refine G.iconst (0 : Int32) dX12_placeOf_21 ki_0 ?_
      refine G.istore (lv' := [(4, .int (0 : Int32)), (3, .int (0 : Int32)), (0, .ref a0), (1, .int a1), (2, .int a2)]) dX12_placeOf_22 (Nat.le_of_ble_eq_true rfl) rfl ?_
      refine G.sub (lv' := [(0, .ref a0), (1, .int a1), (2, .int a2), (3, .int (0 : Int32)), (4, .int (0 : Int32))]) [2, 3, 4, 1, 0] rfl ?_
      refine loopE (fun (s5 : Int32 × Int32) => G yX12_placeOf cX12_placeOf 6 (some .int) 1 24 [(0, .ref a0), (1, .int a1), (2, .int a2), (3, .int s5.1), (4, .int s5.2)] [] M (some (.int o)) M) (fun (e5 : Int32) => G yX12_placeOf cX12_placeOf 6 (some .int) 1 92 [(3, .int e5)] [] M (some (.int o)) M) h ?_ ?_
      · intro e5 h
        show G yX12_placeOf cX12_placeOf 6 (some .int) 1 92 [(3, .int e5)] [] M (some (.int o)) M
        refine G.iload_n dX12_placeOf_92 rfl rfl ?_
        exact G.iret dX12_placeOf_93 rfl (rfl) h
      · intro s5 x5 h K5
        show G yX12_placeOf cX12_placeOf 6 (some .int) 1 24 [(0, .ref a0), (1, .int a1), (2, .int a2), (3, .int s5.1), (4, .int s5.2)] [] M (some (.int o)) M
        refine G.iload dX12_placeOf_24 rfl ?_
        refine G.aload_n dX12_placeOf_26 rfl rfl ?_
        refine G.iconst (4 : Int32) dX12_placeOf_27 ki_4 ?_
        refine G.callVi (ci := 12) [.int (4 : Int32)] [.int s5.2] dX12_placeOf_28 lkX12_383 okX12_has rfl (fun v hv => C_X12_has hv) (Nat.le_of_ble_eq_true rfl) rfl rfl (Nat.le_of_ble_eq_true rfl) h (fun v6 h => ?_)
        refine G.icmp_ge 92 dX12_placeOf_31 (by decide) h (fun c7 h => ?_) (fun c7 h => ?_)
        · refine G.sub (lv' := [(3, .int s5.1)]) [3] rfl ?_
          have h := leafR' h K5
          exact h
        · refine G.bipush (20 : Int32) dX12_placeOf_34 kb_20 ?_
          refine G.aload_n dX12_placeOf_36 rfl rfl ?_
          refine G.getI dX12_placeOf_37 fkX12_290 fr12_18 h (fun v8 h => ?_)
          refine G.imul dX12_placeOf_40 ?_
          refine G.iload dX12_placeOf_41 rfl ?_
          refine G.iadd dX12_placeOf_43 ?_
          refine G.istore (lv' := [(5, .int (((20 : Int32) * v8) + s5.2)), (0, .ref a0), (1, .int a1), (2, .int a2), (3, .int s5.1), (4, .int s5.2)]) dX12_placeOf_44 (Nat.le_of_ble_eq_true rfl) rfl ?_
          refine G.aload_n dX12_placeOf_46 rfl rfl ?_
          refine G.getR dX12_placeOf_47 fkX12_70 fr12_31 h (fun v9 h => ?_)
          refine G.iload dX12_placeOf_50 rfl ?_
          refine G.iald dX12_placeOf_52 h (fun v10 h => ?_)
          refine G.iload_n dX12_placeOf_53 rfl rfl ?_
          refine jn_elim (fun j12 => ∀ (u11 : Int32), j12 u11 = some x5 → G yX12_placeOf cX12_placeOf 6 (some .int) 1 86 [(0, .ref a0), (1, .int a1), (2, .int a2), (3, .int u11), (4, .int s5.2)] [] M (some (.int o)) M) h ?_ ?_
          · intro u11 h
            refine G.iinc s5.2 (w := (s5.2 + (1 : Int32))) (lv' := [(4, .int (s5.2 + (1 : Int32))), (0, .ref a0), (1, .int a1), (2, .int a2), (3, .int u11)]) dX12_placeOf_86 rfl rfl (Nat.le_of_ble_eq_true rfl) rfl ?_
            refine G.goto 24 dX12_placeOf_89 (by decide) ?_
            refine G.sub (lv' := [(0, .ref a0), (1, .int a1), (2, .int a2), (3, .int u11), (4, .int (s5.2 + (1 : Int32)))]) [1, 2, 3, 4, 0] rfl ?_
            have h := leafL' h K5
            exact h
          · intro j12 Jj12 h
            refine G.icmp_ne 86 dX12_placeOf_54 (by decide) h (fun c13 h => ?_) (fun c13 h => ?_)
            · refine G.iload_n dX12_placeOf_57 rfl rfl ?_
              refine G.aload_n dX12_placeOf_58 rfl rfl ?_
              refine G.getR dX12_placeOf_59 fkX12_76 fr12_33 h (fun v14 h => ?_)
              refine G.iload dX12_placeOf_62 rfl ?_
              refine G.iald dX12_placeOf_64 h (fun v15 h => ?_)
              refine G.aload_n dX12_placeOf_65 rfl rfl ?_
              refine G.getR dX12_placeOf_66 fkX12_79 fr12_34 h (fun v16 h => ?_)
              refine G.iload dX12_placeOf_69 rfl ?_
              refine G.iald dX12_placeOf_71 h (fun v17 h => ?_)
              refine G.callSi [.int a2, .int v15, .int v17] [] dX12_placeOf_72 lkX12_386 okX12_in (fun v hv => C_X12_in hv) (Nat.le_of_ble_eq_true rfl) rfl rfl (Nat.le_of_ble_eq_true rfl) h (fun v18 h => ?_)
              refine G.if_eq 86 dX12_placeOf_75 (by decide) h (fun c19 h => ?_) (fun c19 h => ?_)
              · refine G.sub (lv' := [(0, .ref a0), (1, .int a1), (2, .int a2), (3, .int s5.1), (4, .int s5.2)]) [1, 2, 3, 4, 5] rfl ?_
                exact Jj12 _ h
              · refine G.aload_n dX12_placeOf_78 rfl rfl ?_
                refine G.getR dX12_placeOf_79 fkX12_73 fr12_32 h (fun v20 h => ?_)
                refine G.iload dX12_placeOf_82 rfl ?_
                refine G.iald dX12_placeOf_84 h (fun v21 h => ?_)
                refine G.istore_n (lv' := [(3, .int v21), (5, .int (((20 : Int32) * v8) + s5.2)), (0, .ref a0), (1, .int a1), (2, .int a2), (4, .int s5.2)]) dX12_placeOf_85 rfl (Nat.le_of_ble_eq_true rfl) rfl ?_
                refine G.sub (lv' := [(0, .ref a0), (1, .int a1), (2, .int a2), (3, .int v21), (4, .int s5.2)]) [2, 3, 4, 0, 5] rfl ?_
                exact Jj12 _ h
            · refine G.sub (lv' := [(0, .ref a0), (1, .int a1), (2, .int a2), (3, .int s5.1), (4, .int s5.2)]) [1, 2, 3, 4, 5] rfl ?_
              exact Jj12 _ h
  · refine G.bipush (-2 : Int32) dX12_placeOf_16 kb_m2 ?_
    exact G.iret dX12_placeOf_18 rfl (rfl) h
-- OnlyUpwardModel.where(II)I
set_option maxRecDepth 100000 in
set_option maxHeartbeats 4000000 in
def F_X12_where (n : Nat) (M : AM) (a0 : Nat) (a1 : Int32) (a2 : Int32) : Option Int32 :=
  (rcv 12 M a0 (F_X12_isPerson n M a0 a1)).bind fun v1 => if v1 = 0 then some (-1 : Int32) else (F_X12_isHour n M a2).bind fun v3 => if v3 = 0 then some (-1 : Int32) else (rcv 12 M a0 (F_X12_placeOf n M a0 a1 a2)).bind fun v5 => some v5
set_option maxRecDepth 100000 in
set_option maxHeartbeats 4000000 in
theorem C_X12_where {n : Nat} {M : AM} {a0 : Nat} {a1 : Int32} {a2 : Int32} {o : Int32} (h : F_X12_where n M a0 a1 a2 = some o) : Cn yX12_where cX12_where 3 (some .int) 2 [.ref a0, .int a1, .int a2] M (some (.int o)) M := by
  unfold F_X12_where at h
  refine Cn.of rfl (Nat.le_of_ble_eq_true rfl) ?_
  show G yX12_where cX12_where 3 (some .int) 2 0 [(0, .ref a0), (1, .int a1), (2, .int a2)] [] M (some (.int o)) M
  refine G.aload_n dX12_where_0 rfl rfl ?_
  refine G.iload_n dX12_where_1 rfl rfl ?_
  refine G.callVi (ci := 12) [.int a1] [] dX12_where_2 lkX12_415 okX12_isPerson rfl (fun v hv => C_X12_isPerson hv) (Nat.le_of_ble_eq_true rfl) rfl rfl (Nat.le_of_ble_eq_true rfl) h (fun v1 h => ?_)
  refine G.if_eq 24 dX12_where_5 (by decide) h (fun c2 h => ?_) (fun c2 h => ?_)
  · refine G.iconst (-1 : Int32) dX12_where_24 ki_m1 ?_
    exact G.iret dX12_where_25 rfl (rfl) h
  · refine G.iload_n dX12_where_8 rfl rfl ?_
    refine G.callSi [.int a2] [] dX12_where_9 lkX12_418 okX12_isHour (fun v hv => C_X12_isHour hv) (Nat.le_of_ble_eq_true rfl) rfl rfl (Nat.le_of_ble_eq_true rfl) h (fun v3 h => ?_)
    refine G.if_eq 24 dX12_where_12 (by decide) h (fun c4 h => ?_) (fun c4 h => ?_)
    · refine G.iconst (-1 : Int32) dX12_where_24 ki_m1 ?_
      exact G.iret dX12_where_25 rfl (rfl) h
    · refine G.aload_n dX12_where_15 rfl rfl ?_
      refine G.iload_n dX12_where_16 rfl rfl ?_
      refine G.iload_n dX12_where_17 rfl rfl ?_
      refine G.callVi (ci := 12) [.int a1, .int a2] [] dX12_where_18 lkX12_396 okX12_placeOf rfl (fun v hv => C_X12_placeOf hv) (Nat.le_of_ble_eq_true rfl) rfl rfl (Nat.le_of_ble_eq_true rfl) h (fun v5 h => ?_)
      refine G.goto 25 dX12_where_21 (by decide) ?_
      exact G.iret dX12_where_25 rfl (rfl) h
-- OnlyUpwardModel.isPlace(I)Z
set_option maxRecDepth 100000 in
set_option maxHeartbeats 4000000 in
def F_X12_isPlace (n : Nat) (M : AM) (a0 : Nat) (a1 : Int32) : Option Int32 :=
  (rcv 12 M a0 (F_X12_has n M a0 (0 : Int32))).bind fun v1 => (F_X12_in n M a1 (0 : Int32) (v1 - (1 : Int32))).bind fun v2 => gd (narrow .boolean (.int v2) = .int v2) (some v2)
set_option maxRecDepth 100000 in
set_option maxHeartbeats 4000000 in
theorem C_X12_isPlace {n : Nat} {M : AM} {a0 : Nat} {a1 : Int32} {o : Int32} (h : F_X12_isPlace n M a0 a1 = some o) : Cn yX12_isPlace cX12_isPlace 2 (some .boolean) 1 [.ref a0, .int a1] M (some (.int o)) M := by
  unfold F_X12_isPlace at h
  refine Cn.of rfl (Nat.le_of_ble_eq_true rfl) ?_
  show G yX12_isPlace cX12_isPlace 2 (some .boolean) 1 0 [(0, .ref a0), (1, .int a1)] [] M (some (.int o)) M
  refine G.iload_n dX12_isPlace_0 rfl rfl ?_
  refine G.iconst (0 : Int32) dX12_isPlace_1 ki_0 ?_
  refine G.aload_n dX12_isPlace_2 rfl rfl ?_
  refine G.iconst (0 : Int32) dX12_isPlace_3 ki_0 ?_
  refine G.callVi (ci := 12) [.int (0 : Int32)] [.int (0 : Int32), .int a1] dX12_isPlace_4 lkX12_383 okX12_has rfl (fun v hv => C_X12_has hv) (Nat.le_of_ble_eq_true rfl) rfl rfl (Nat.le_of_ble_eq_true rfl) h (fun v1 h => ?_)
  refine G.iconst (1 : Int32) dX12_isPlace_7 ki_1 ?_
  refine G.isub dX12_isPlace_8 ?_
  refine G.callSi [.int a1, .int (0 : Int32), .int (v1 - (1 : Int32))] [] dX12_isPlace_9 lkX12_386 okX12_in (fun v hv => C_X12_in hv) (Nat.le_of_ble_eq_true rfl) rfl rfl (Nat.le_of_ble_eq_true rfl) h (fun v2 h => ?_)
  refine gd_elim h (fun c3 h => ?_)
  exact G.iret dX12_isPlace_12 rfl (c3) h
-- OnlyUpwardModel.isThin(II)Z
set_option maxRecDepth 100000 in
set_option maxHeartbeats 4000000 in
def F_X12_isThin (n : Nat) (M : AM) (a0 : Nat) (a1 : Int32) (a2 : Int32) : Option Int32 :=
  (iter (fun (s1 : Int32) => (rcv 12 M a0 (F_X12_has n M a0 (3 : Int32))).bind fun v2 => if v2 ≤ s1 then some (.inr (.inl ())) else (gI 12 18 M a0).bind fun v4 => (gR 12 29 M a0).bind fun v5 => (rdI M v5 (((8 : Int32) * v4) + s1)).bind fun v6 => jn ((gR 12 29 M a0).bind fun v7 => (rdI M v7 (((8 : Int32) * v4) + s1)).bind fun v8 => jn (some (.inl (s1 + (1 : Int32)))) fun j9 => if v8 = a2 then (gR 12 30 M a0).bind fun v11 => (rdI M v11 (((8 : Int32) * v4) + s1)).bind fun v12 => if v12 = a1 then some (.inr (.inr (1 : Int32))) else j9 else j9) fun j14 => if v6 = a1 then (gR 12 30 M a0).bind fun v16 => (rdI M v16 (((8 : Int32) * v4) + s1)).bind fun v17 => if v17 = a2 then some (.inr (.inr (1 : Int32))) else j14 else j14) n (0 : Int32)).bind fun (z1 : (Unit) ⊕ Int32) => Sum.elim (fun (e1 : Unit) => some (0 : Int32)) (fun (v : Int32) => some v) z1
set_option maxRecDepth 100000 in
set_option maxHeartbeats 4000000 in
theorem C_X12_isThin {n : Nat} {M : AM} {a0 : Nat} {a1 : Int32} {a2 : Int32} {o : Int32} (h : F_X12_isThin n M a0 a1 a2 = some o) : Cn yX12_isThin cX12_isThin 5 (some .boolean) 1 [.ref a0, .int a1, .int a2] M (some (.int o)) M := by
  unfold F_X12_isThin at h
  refine Cn.of rfl (Nat.le_of_ble_eq_true rfl) ?_
  show G yX12_isThin cX12_isThin 5 (some .boolean) 1 0 [(0, .ref a0), (1, .int a1), (2, .int a2)] [] M (some (.int o)) M
  refine G.iconst (0 : Int32) dX12_isThin_0 ki_0 ?_
  refine G.istore_n (lv' := [(3, .int (0 : Int32)), (0, .ref a0), (1, .int a1), (2, .int a2)]) dX12_isThin_1 rfl (Nat.le_of_ble_eq_true rfl) rfl ?_
  refine G.sub (lv' := [(0, .ref a0), (1, .int a1), (2, .int a2), (3, .int (0 : Int32))]) [1, 2, 3, 0] rfl ?_
  refine loopE (fun (s1 : Int32) => G yX12_isThin cX12_isThin 5 (some .boolean) 1 2 [(0, .ref a0), (1, .int a1), (2, .int a2), (3, .int s1)] [] M (some (.int o)) M) (fun (z1 : (Unit) ⊕ Int32) => Sum.elim (fun (e1 : Unit) => G yX12_isThin cX12_isThin 5 (some .boolean) 1 74 [] [] M (some (.int o)) M) (fun (v : Int32) => some v = some o) z1) h ?_ ?_
  · intro z1 h
    rcases z1 with e1 | v
    · have h := sum_inl h
      show G yX12_isThin cX12_isThin 5 (some .boolean) 1 74 [] [] M (some (.int o)) M
      refine G.iconst (0 : Int32) dX12_isThin_74 ki_0 ?_
      exact G.iret dX12_isThin_75 rfl (by decide) h
    · have h := sum_inr h
      exact h
  · intro s1 x1 h K1
    show G yX12_isThin cX12_isThin 5 (some .boolean) 1 2 [(0, .ref a0), (1, .int a1), (2, .int a2), (3, .int s1)] [] M (some (.int o)) M
    refine G.iload_n dX12_isThin_2 rfl rfl ?_
    refine G.aload_n dX12_isThin_3 rfl rfl ?_
    refine G.iconst (3 : Int32) dX12_isThin_4 ki_3 ?_
    refine G.callVi (ci := 12) [.int (3 : Int32)] [.int s1] dX12_isThin_5 lkX12_383 okX12_has rfl (fun v hv => C_X12_has hv) (Nat.le_of_ble_eq_true rfl) rfl rfl (Nat.le_of_ble_eq_true rfl) h (fun v2 h => ?_)
    refine G.icmp_ge 74 dX12_isThin_8 (by decide) h (fun c3 h => ?_) (fun c3 h => ?_)
    · refine G.sub (lv' := []) [] rfl ?_
      have h := leafR' h K1
      exact h
    · refine G.bipush (8 : Int32) dX12_isThin_11 kb_8 ?_
      refine G.aload_n dX12_isThin_13 rfl rfl ?_
      refine G.getI dX12_isThin_14 fkX12_290 fr12_18 h (fun v4 h => ?_)
      refine G.imul dX12_isThin_17 ?_
      refine G.iload_n dX12_isThin_18 rfl rfl ?_
      refine G.iadd dX12_isThin_19 ?_
      refine G.istore (lv' := [(4, .int (((8 : Int32) * v4) + s1)), (0, .ref a0), (1, .int a1), (2, .int a2), (3, .int s1)]) dX12_isThin_20 (Nat.le_of_ble_eq_true rfl) rfl ?_
      refine G.aload_n dX12_isThin_22 rfl rfl ?_
      refine G.getR dX12_isThin_23 fkX12_64 fr12_29 h (fun v5 h => ?_)
      refine G.iload dX12_isThin_26 rfl ?_
      refine G.iald dX12_isThin_28 h (fun v6 h => ?_)
      refine G.iload_n dX12_isThin_29 rfl rfl ?_
      refine jn_elim (fun j14 => j14 = some x1 → G yX12_isThin cX12_isThin 5 (some .boolean) 1 44 [(0, .ref a0), (1, .int a1), (2, .int a2), (3, .int s1), (4, .int (((8 : Int32) * v4) + s1))] [] M (some (.int o)) M) h ?_ ?_
      · intro h
        refine G.aload_n dX12_isThin_44 rfl rfl ?_
        refine G.getR dX12_isThin_45 fkX12_64 fr12_29 h (fun v7 h => ?_)
        refine G.iload dX12_isThin_48 rfl ?_
        refine G.iald dX12_isThin_50 h (fun v8 h => ?_)
        refine G.iload_n dX12_isThin_51 rfl rfl ?_
        refine jn_elim (fun j9 => j9 = some x1 → G yX12_isThin cX12_isThin 5 (some .boolean) 1 68 [(0, .ref a0), (1, .int a1), (2, .int a2), (3, .int s1)] [] M (some (.int o)) M) h ?_ ?_
        · intro h
          refine G.iinc s1 (w := (s1 + (1 : Int32))) (lv' := [(3, .int (s1 + (1 : Int32))), (0, .ref a0), (1, .int a1), (2, .int a2)]) dX12_isThin_68 rfl rfl (Nat.le_of_ble_eq_true rfl) rfl ?_
          refine G.goto 2 dX12_isThin_71 (by decide) ?_
          refine G.sub (lv' := [(0, .ref a0), (1, .int a1), (2, .int a2), (3, .int (s1 + (1 : Int32)))]) [1, 2, 3, 0] rfl ?_
          have h := leafL' h K1
          exact h
        · intro j9 Jj9 h
          refine G.icmp_ne 68 dX12_isThin_52 (by decide) h (fun c10 h => ?_) (fun c10 h => ?_)
          · refine G.aload_n dX12_isThin_55 rfl rfl ?_
            refine G.getR dX12_isThin_56 fkX12_67 fr12_30 h (fun v11 h => ?_)
            refine G.iload dX12_isThin_59 rfl ?_
            refine G.iald dX12_isThin_61 h (fun v12 h => ?_)
            refine G.iload_n dX12_isThin_62 rfl rfl ?_
            refine G.icmp_ne 68 dX12_isThin_63 (by decide) h (fun c13 h => ?_) (fun c13 h => ?_)
            · refine G.iconst (1 : Int32) dX12_isThin_66 ki_1 ?_
              have h := leafR' h K1
              exact G.iret dX12_isThin_67 rfl (by decide) h
            · refine G.sub (lv' := [(0, .ref a0), (1, .int a1), (2, .int a2), (3, .int s1)]) [0, 1, 2, 3] rfl ?_
              exact Jj9  h
          · refine G.sub (lv' := [(0, .ref a0), (1, .int a1), (2, .int a2), (3, .int s1)]) [0, 1, 2, 3] rfl ?_
            exact Jj9  h
      · intro j14 Jj14 h
        refine G.icmp_ne 44 dX12_isThin_30 (by decide) h (fun c15 h => ?_) (fun c15 h => ?_)
        · refine G.aload_n dX12_isThin_33 rfl rfl ?_
          refine G.getR dX12_isThin_34 fkX12_67 fr12_30 h (fun v16 h => ?_)
          refine G.iload dX12_isThin_37 rfl ?_
          refine G.iald dX12_isThin_39 h (fun v17 h => ?_)
          refine G.iload_n dX12_isThin_40 rfl rfl ?_
          refine G.icmp_eq 66 dX12_isThin_41 (by decide) h (fun c18 h => ?_) (fun c18 h => ?_)
          · refine G.iconst (1 : Int32) dX12_isThin_66 ki_1 ?_
            have h := leafR' h K1
            exact G.iret dX12_isThin_67 rfl (by decide) h
          · refine G.sub (lv' := [(0, .ref a0), (1, .int a1), (2, .int a2), (3, .int s1), (4, .int (((8 : Int32) * v4) + s1))]) [1, 2, 3, 4, 0] rfl ?_
            exact Jj14  h
        · refine G.sub (lv' := [(0, .ref a0), (1, .int a1), (2, .int a2), (3, .int s1), (4, .int (((8 : Int32) * v4) + s1))]) [1, 2, 3, 4, 0] rfl ?_
          exact Jj14  h
-- OnlyUpwardModel.earshotOf(II)I
set_option maxRecDepth 100000 in
set_option maxHeartbeats 4000000 in
def F_X12_earshotOf (n : Nat) (M : AM) (a0 : Nat) (a1 : Int32) (a2 : Int32) : Option Int32 :=
  (iter (fun (s1 : Int32 × Int32) => (rcv 12 M a0 (F_X12_has n M a0 (1 : Int32))).bind fun v2 => if v2 ≤ s1.2 then some (.inr s1.1) else (rcv 12 M a0 (F_X12_placeOf n M a0 s1.2 a2)).bind fun v4 => jn (fun (u5 : Int32) => some (.inl (u5, (s1.2 + (1 : Int32))))) fun j6 => if v4 < 0 then j6 s1.1 else jn (j6 (s1.1 ||| ((1 : Int32) <<< (s1.2 &&& 31)))) fun j8 => if v4 = a1 then j8 else (rcv 12 M a0 (F_X12_isThin n M a0 v4 a1)).bind fun v10 => if v10 = 0 then j6 s1.1 else j8) n ((0 : Int32), (0 : Int32))).bind fun (e1 : Int32) => some e1
set_option maxRecDepth 100000 in
set_option maxHeartbeats 4000000 in
theorem C_X12_earshotOf {n : Nat} {M : AM} {a0 : Nat} {a1 : Int32} {a2 : Int32} {o : Int32} (h : F_X12_earshotOf n M a0 a1 a2 = some o) : Cn yX12_earshotOf cX12_earshotOf 6 (some .int) 2 [.ref a0, .int a1, .int a2] M (some (.int o)) M := by
  unfold F_X12_earshotOf at h
  refine Cn.of rfl (Nat.le_of_ble_eq_true rfl) ?_
  show G yX12_earshotOf cX12_earshotOf 6 (some .int) 2 0 [(0, .ref a0), (1, .int a1), (2, .int a2)] [] M (some (.int o)) M
  refine G.iconst (0 : Int32) dX12_earshotOf_0 ki_0 ?_
  refine G.istore_n (lv' := [(3, .int (0 : Int32)), (0, .ref a0), (1, .int a1), (2, .int a2)]) dX12_earshotOf_1 rfl (Nat.le_of_ble_eq_true rfl) rfl ?_
  refine G.iconst (0 : Int32) dX12_earshotOf_2 ki_0 ?_
  refine G.istore (lv' := [(4, .int (0 : Int32)), (3, .int (0 : Int32)), (0, .ref a0), (1, .int a1), (2, .int a2)]) dX12_earshotOf_3 (Nat.le_of_ble_eq_true rfl) rfl ?_
  refine G.sub (lv' := [(0, .ref a0), (1, .int a1), (2, .int a2), (3, .int (0 : Int32)), (4, .int (0 : Int32))]) [2, 3, 4, 1, 0] rfl ?_
  refine loopE (fun (s1 : Int32 × Int32) => G yX12_earshotOf cX12_earshotOf 6 (some .int) 2 5 [(0, .ref a0), (1, .int a1), (2, .int a2), (3, .int s1.1), (4, .int s1.2)] [] M (some (.int o)) M) (fun (e1 : Int32) => G yX12_earshotOf cX12_earshotOf 6 (some .int) 2 58 [(3, .int e1)] [] M (some (.int o)) M) h ?_ ?_
  · intro e1 h
    show G yX12_earshotOf cX12_earshotOf 6 (some .int) 2 58 [(3, .int e1)] [] M (some (.int o)) M
    refine G.iload_n dX12_earshotOf_58 rfl rfl ?_
    exact G.iret dX12_earshotOf_59 rfl (rfl) h
  · intro s1 x1 h K1
    show G yX12_earshotOf cX12_earshotOf 6 (some .int) 2 5 [(0, .ref a0), (1, .int a1), (2, .int a2), (3, .int s1.1), (4, .int s1.2)] [] M (some (.int o)) M
    refine G.iload dX12_earshotOf_5 rfl ?_
    refine G.aload_n dX12_earshotOf_7 rfl rfl ?_
    refine G.iconst (1 : Int32) dX12_earshotOf_8 ki_1 ?_
    refine G.callVi (ci := 12) [.int (1 : Int32)] [.int s1.2] dX12_earshotOf_9 lkX12_383 okX12_has rfl (fun v hv => C_X12_has hv) (Nat.le_of_ble_eq_true rfl) rfl rfl (Nat.le_of_ble_eq_true rfl) h (fun v2 h => ?_)
    refine G.icmp_ge 58 dX12_earshotOf_12 (by decide) h (fun c3 h => ?_) (fun c3 h => ?_)
    · refine G.sub (lv' := [(3, .int s1.1)]) [3] rfl ?_
      have h := leafR' h K1
      exact h
    · refine G.aload_n dX12_earshotOf_15 rfl rfl ?_
      refine G.iload dX12_earshotOf_16 rfl ?_
      refine G.iload_n dX12_earshotOf_18 rfl rfl ?_
      refine G.callVi (ci := 12) [.int s1.2, .int a2] [] dX12_earshotOf_19 lkX12_396 okX12_placeOf rfl (fun v hv => C_X12_placeOf hv) (Nat.le_of_ble_eq_true rfl) rfl rfl (Nat.le_of_ble_eq_true rfl) h (fun v4 h => ?_)
      refine G.istore (lv' := [(5, .int v4), (0, .ref a0), (1, .int a1), (2, .int a2), (3, .int s1.1), (4, .int s1.2)]) dX12_earshotOf_22 (Nat.le_of_ble_eq_true rfl) rfl ?_
      refine G.iload dX12_earshotOf_24 rfl ?_
      refine jn_elim (fun j6 => ∀ (u5 : Int32), j6 u5 = some x1 → G yX12_earshotOf cX12_earshotOf 6 (some .int) 2 52 [(0, .ref a0), (1, .int a1), (2, .int a2), (3, .int u5), (4, .int s1.2)] [] M (some (.int o)) M) h ?_ ?_
      · intro u5 h
        refine G.iinc s1.2 (w := (s1.2 + (1 : Int32))) (lv' := [(4, .int (s1.2 + (1 : Int32))), (0, .ref a0), (1, .int a1), (2, .int a2), (3, .int u5)]) dX12_earshotOf_52 rfl rfl (Nat.le_of_ble_eq_true rfl) rfl ?_
        refine G.goto 5 dX12_earshotOf_55 (by decide) ?_
        refine G.sub (lv' := [(0, .ref a0), (1, .int a1), (2, .int a2), (3, .int u5), (4, .int (s1.2 + (1 : Int32)))]) [1, 2, 3, 4, 0] rfl ?_
        have h := leafL' h K1
        exact h
      · intro j6 Jj6 h
        refine G.if_lt 52 dX12_earshotOf_26 (by decide) h (fun c7 h => ?_) (fun c7 h => ?_)
        · refine G.sub (lv' := [(0, .ref a0), (1, .int a1), (2, .int a2), (3, .int s1.1), (4, .int s1.2)]) [1, 2, 3, 4, 5] rfl ?_
          exact Jj6 _ h
        · refine G.iload dX12_earshotOf_29 rfl ?_
          refine G.iload_n dX12_earshotOf_31 rfl rfl ?_
          refine jn_elim (fun j8 => j8 = some x1 → G yX12_earshotOf cX12_earshotOf 6 (some .int) 2 45 [(0, .ref a0), (1, .int a1), (2, .int a2), (3, .int s1.1), (4, .int s1.2)] [] M (some (.int o)) M) h ?_ ?_
          · intro h
            refine G.iload_n dX12_earshotOf_45 rfl rfl ?_
            refine G.iconst (1 : Int32) dX12_earshotOf_46 ki_1 ?_
            refine G.iload dX12_earshotOf_47 rfl ?_
            refine G.ishl dX12_earshotOf_49 ?_
            refine G.ior dX12_earshotOf_50 ?_
            refine G.istore_n (lv' := [(3, .int (s1.1 ||| ((1 : Int32) <<< (s1.2 &&& 31)))), (0, .ref a0), (1, .int a1), (2, .int a2), (4, .int s1.2)]) dX12_earshotOf_51 rfl (Nat.le_of_ble_eq_true rfl) rfl ?_
            refine G.sub (lv' := [(0, .ref a0), (1, .int a1), (2, .int a2), (3, .int (s1.1 ||| ((1 : Int32) <<< (s1.2 &&& 31)))), (4, .int s1.2)]) [1, 2, 3, 0, 4] rfl ?_
            exact Jj6 _ h
          · intro j8 Jj8 h
            refine G.icmp_eq 45 dX12_earshotOf_32 (by decide) h (fun c9 h => ?_) (fun c9 h => ?_)
            · refine G.sub (lv' := [(0, .ref a0), (1, .int a1), (2, .int a2), (3, .int s1.1), (4, .int s1.2)]) [1, 2, 3, 4, 5] rfl ?_
              exact Jj8  h
            · refine G.aload_n dX12_earshotOf_35 rfl rfl ?_
              refine G.iload dX12_earshotOf_36 rfl ?_
              refine G.iload_n dX12_earshotOf_38 rfl rfl ?_
              refine G.callVi (ci := 12) [.int v4, .int a1] [] dX12_earshotOf_39 lkX12_399 okX12_isThin rfl (fun v hv => C_X12_isThin hv) (Nat.le_of_ble_eq_true rfl) rfl rfl (Nat.le_of_ble_eq_true rfl) h (fun v10 h => ?_)
              refine G.if_eq 52 dX12_earshotOf_42 (by decide) h (fun c11 h => ?_) (fun c11 h => ?_)
              · refine G.sub (lv' := [(0, .ref a0), (1, .int a1), (2, .int a2), (3, .int s1.1), (4, .int s1.2)]) [1, 2, 3, 4, 5] rfl ?_
                exact Jj6 _ h
              · refine G.sub (lv' := [(0, .ref a0), (1, .int a1), (2, .int a2), (3, .int s1.1), (4, .int s1.2)]) [1, 2, 3, 4, 5] rfl ?_
                exact Jj8  h
-- OnlyUpwardModel.earshot(II)I
set_option maxRecDepth 100000 in
set_option maxHeartbeats 4000000 in
def F_X12_earshot (n : Nat) (M : AM) (a0 : Nat) (a1 : Int32) (a2 : Int32) : Option Int32 :=
  (rcv 12 M a0 (F_X12_isPlace n M a0 a1)).bind fun v1 => if v1 = 0 then some (-1 : Int32) else (F_X12_isHour n M a2).bind fun v3 => if v3 = 0 then some (-1 : Int32) else (rcv 12 M a0 (F_X12_earshotOf n M a0 a1 a2)).bind fun v5 => some v5
set_option maxRecDepth 100000 in
set_option maxHeartbeats 4000000 in
theorem C_X12_earshot {n : Nat} {M : AM} {a0 : Nat} {a1 : Int32} {a2 : Int32} {o : Int32} (h : F_X12_earshot n M a0 a1 a2 = some o) : Cn yX12_earshot cX12_earshot 3 (some .int) 3 [.ref a0, .int a1, .int a2] M (some (.int o)) M := by
  unfold F_X12_earshot at h
  refine Cn.of rfl (Nat.le_of_ble_eq_true rfl) ?_
  show G yX12_earshot cX12_earshot 3 (some .int) 3 0 [(0, .ref a0), (1, .int a1), (2, .int a2)] [] M (some (.int o)) M
  refine G.aload_n dX12_earshot_0 rfl rfl ?_
  refine G.iload_n dX12_earshot_1 rfl rfl ?_
  refine G.callVi (ci := 12) [.int a1] [] dX12_earshot_2 lkX12_421 okX12_isPlace rfl (fun v hv => C_X12_isPlace hv) (Nat.le_of_ble_eq_true rfl) rfl rfl (Nat.le_of_ble_eq_true rfl) h (fun v1 h => ?_)
  refine G.if_eq 24 dX12_earshot_5 (by decide) h (fun c2 h => ?_) (fun c2 h => ?_)
  · refine G.iconst (-1 : Int32) dX12_earshot_24 ki_m1 ?_
    exact G.iret dX12_earshot_25 rfl (rfl) h
  · refine G.iload_n dX12_earshot_8 rfl rfl ?_
    refine G.callSi [.int a2] [] dX12_earshot_9 lkX12_418 okX12_isHour (fun v hv => C_X12_isHour hv) (Nat.le_of_ble_eq_true rfl) rfl rfl (Nat.le_of_ble_eq_true rfl) h (fun v3 h => ?_)
    refine G.if_eq 24 dX12_earshot_12 (by decide) h (fun c4 h => ?_) (fun c4 h => ?_)
    · refine G.iconst (-1 : Int32) dX12_earshot_24 ki_m1 ?_
      exact G.iret dX12_earshot_25 rfl (rfl) h
    · refine G.aload_n dX12_earshot_15 rfl rfl ?_
      refine G.iload_n dX12_earshot_16 rfl rfl ?_
      refine G.iload_n dX12_earshot_17 rfl rfl ?_
      refine G.callVi (ci := 12) [.int a1, .int a2] [] dX12_earshot_18 lkX12_424 okX12_earshotOf rfl (fun v hv => C_X12_earshotOf hv) (Nat.le_of_ble_eq_true rfl) rfl rfl (Nat.le_of_ble_eq_true rfl) h (fun v5 h => ?_)
      refine G.goto 25 dX12_earshot_21 (by decide) ?_
      exact G.iret dX12_earshot_25 rfl (rfl) h
-- OnlyUpwardModel.crowdAt(II)I
set_option maxRecDepth 100000 in
set_option maxHeartbeats 4000000 in
def F_X12_crowdAt (n : Nat) (M : AM) (a0 : Nat) (a1 : Int32) (a2 : Int32) : Option Int32 :=
  (iter (fun (s1 : Int32 × Int32) => (rcv 12 M a0 (F_X12_has n M a0 (1 : Int32))).bind fun v2 => if v2 ≤ s1.2 then some (.inr s1.1) else (rcv 12 M a0 (F_X12_placeOf n M a0 s1.2 a2)).bind fun v4 => jn (fun (u5 : Int32) => some (.inl (u5, (s1.2 + (1 : Int32))))) fun j6 => if v4 = a1 then j6 (s1.1 ||| ((1 : Int32) <<< (s1.2 &&& 31))) else j6 s1.1) n ((0 : Int32), (0 : Int32))).bind fun (e1 : Int32) => some e1
set_option maxRecDepth 100000 in
set_option maxHeartbeats 4000000 in
theorem C_X12_crowdAt {n : Nat} {M : AM} {a0 : Nat} {a1 : Int32} {a2 : Int32} {o : Int32} (h : F_X12_crowdAt n M a0 a1 a2 = some o) : Cn yX12_crowdAt cX12_crowdAt 5 (some .int) 2 [.ref a0, .int a1, .int a2] M (some (.int o)) M := by
  unfold F_X12_crowdAt at h
  refine Cn.of rfl (Nat.le_of_ble_eq_true rfl) ?_
  show G yX12_crowdAt cX12_crowdAt 5 (some .int) 2 0 [(0, .ref a0), (1, .int a1), (2, .int a2)] [] M (some (.int o)) M
  refine G.iconst (0 : Int32) dX12_crowdAt_0 ki_0 ?_
  refine G.istore_n (lv' := [(3, .int (0 : Int32)), (0, .ref a0), (1, .int a1), (2, .int a2)]) dX12_crowdAt_1 rfl (Nat.le_of_ble_eq_true rfl) rfl ?_
  refine G.iconst (0 : Int32) dX12_crowdAt_2 ki_0 ?_
  refine G.istore (lv' := [(4, .int (0 : Int32)), (3, .int (0 : Int32)), (0, .ref a0), (1, .int a1), (2, .int a2)]) dX12_crowdAt_3 (Nat.le_of_ble_eq_true rfl) rfl ?_
  refine G.sub (lv' := [(0, .ref a0), (1, .int a1), (2, .int a2), (3, .int (0 : Int32)), (4, .int (0 : Int32))]) [2, 3, 4, 1, 0] rfl ?_
  refine loopE (fun (s1 : Int32 × Int32) => G yX12_crowdAt cX12_crowdAt 5 (some .int) 2 5 [(0, .ref a0), (1, .int a1), (2, .int a2), (3, .int s1.1), (4, .int s1.2)] [] M (some (.int o)) M) (fun (e1 : Int32) => G yX12_crowdAt cX12_crowdAt 5 (some .int) 2 39 [(3, .int e1)] [] M (some (.int o)) M) h ?_ ?_
  · intro e1 h
    show G yX12_crowdAt cX12_crowdAt 5 (some .int) 2 39 [(3, .int e1)] [] M (some (.int o)) M
    refine G.iload_n dX12_crowdAt_39 rfl rfl ?_
    exact G.iret dX12_crowdAt_40 rfl (rfl) h
  · intro s1 x1 h K1
    show G yX12_crowdAt cX12_crowdAt 5 (some .int) 2 5 [(0, .ref a0), (1, .int a1), (2, .int a2), (3, .int s1.1), (4, .int s1.2)] [] M (some (.int o)) M
    refine G.iload dX12_crowdAt_5 rfl ?_
    refine G.aload_n dX12_crowdAt_7 rfl rfl ?_
    refine G.iconst (1 : Int32) dX12_crowdAt_8 ki_1 ?_
    refine G.callVi (ci := 12) [.int (1 : Int32)] [.int s1.2] dX12_crowdAt_9 lkX12_383 okX12_has rfl (fun v hv => C_X12_has hv) (Nat.le_of_ble_eq_true rfl) rfl rfl (Nat.le_of_ble_eq_true rfl) h (fun v2 h => ?_)
    refine G.icmp_ge 39 dX12_crowdAt_12 (by decide) h (fun c3 h => ?_) (fun c3 h => ?_)
    · refine G.sub (lv' := [(3, .int s1.1)]) [3] rfl ?_
      have h := leafR' h K1
      exact h
    · refine G.aload_n dX12_crowdAt_15 rfl rfl ?_
      refine G.iload dX12_crowdAt_16 rfl ?_
      refine G.iload_n dX12_crowdAt_18 rfl rfl ?_
      refine G.callVi (ci := 12) [.int s1.2, .int a2] [] dX12_crowdAt_19 lkX12_396 okX12_placeOf rfl (fun v hv => C_X12_placeOf hv) (Nat.le_of_ble_eq_true rfl) rfl rfl (Nat.le_of_ble_eq_true rfl) h (fun v4 h => ?_)
      refine G.iload_n dX12_crowdAt_22 rfl rfl ?_
      refine jn_elim (fun j6 => ∀ (u5 : Int32), j6 u5 = some x1 → G yX12_crowdAt cX12_crowdAt 5 (some .int) 2 33 [(0, .ref a0), (1, .int a1), (2, .int a2), (3, .int u5), (4, .int s1.2)] [] M (some (.int o)) M) h ?_ ?_
      · intro u5 h
        refine G.iinc s1.2 (w := (s1.2 + (1 : Int32))) (lv' := [(4, .int (s1.2 + (1 : Int32))), (0, .ref a0), (1, .int a1), (2, .int a2), (3, .int u5)]) dX12_crowdAt_33 rfl rfl (Nat.le_of_ble_eq_true rfl) rfl ?_
        refine G.goto 5 dX12_crowdAt_36 (by decide) ?_
        refine G.sub (lv' := [(0, .ref a0), (1, .int a1), (2, .int a2), (3, .int u5), (4, .int (s1.2 + (1 : Int32)))]) [1, 2, 3, 4, 0] rfl ?_
        have h := leafL' h K1
        exact h
      · intro j6 Jj6 h
        refine G.icmp_ne 33 dX12_crowdAt_23 (by decide) h (fun c7 h => ?_) (fun c7 h => ?_)
        · refine G.iload_n dX12_crowdAt_26 rfl rfl ?_
          refine G.iconst (1 : Int32) dX12_crowdAt_27 ki_1 ?_
          refine G.iload dX12_crowdAt_28 rfl ?_
          refine G.ishl dX12_crowdAt_30 ?_
          refine G.ior dX12_crowdAt_31 ?_
          refine G.istore_n (lv' := [(3, .int (s1.1 ||| ((1 : Int32) <<< (s1.2 &&& 31)))), (0, .ref a0), (1, .int a1), (2, .int a2), (4, .int s1.2)]) dX12_crowdAt_32 rfl (Nat.le_of_ble_eq_true rfl) rfl ?_
          refine G.sub (lv' := [(0, .ref a0), (1, .int a1), (2, .int a2), (3, .int (s1.1 ||| ((1 : Int32) <<< (s1.2 &&& 31)))), (4, .int s1.2)]) [1, 2, 3, 0, 4] rfl ?_
          exact Jj6 _ h
        · refine G.sub (lv' := [(0, .ref a0), (1, .int a1), (2, .int a2), (3, .int s1.1), (4, .int s1.2)]) [0, 1, 2, 3, 4] rfl ?_
          exact Jj6 _ h
-- OnlyUpwardModel.bits(I)I
set_option maxRecDepth 100000 in
set_option maxHeartbeats 4000000 in
def F_X12_bits (n : Nat) (M : AM) (a0 : Int32) : Option Int32 :=
  (iter (fun (s1 : Int32 × Int32) => if (10 : Int32) ≤ s1.2 then some (.inr s1.1) else lets (s1.1 + ((a0 >>> (s1.2 &&& 31)) &&& (1 : Int32))) fun (w3 : Int32) => some (.inl (w3, (s1.2 + (1 : Int32))))) n ((0 : Int32), (0 : Int32))).bind fun (e1 : Int32) => some e1
set_option maxRecDepth 100000 in
set_option maxHeartbeats 4000000 in
theorem C_X12_bits {n : Nat} {M : AM} {a0 : Int32} {o : Int32} (h : F_X12_bits n M a0 = some o) : Cn yX12_bits cX12_bits 3 (some .int) 0 [.int a0] M (some (.int o)) M := by
  unfold F_X12_bits at h
  refine Cn.of rfl (Nat.le_of_ble_eq_true rfl) ?_
  show G yX12_bits cX12_bits 3 (some .int) 0 0 [(0, .int a0)] [] M (some (.int o)) M
  refine G.iconst (0 : Int32) dX12_bits_0 ki_0 ?_
  refine G.istore_n (lv' := [(1, .int (0 : Int32)), (0, .int a0)]) dX12_bits_1 rfl (Nat.le_of_ble_eq_true rfl) rfl ?_
  refine G.iconst (0 : Int32) dX12_bits_2 ki_0 ?_
  refine G.istore_n (lv' := [(2, .int (0 : Int32)), (1, .int (0 : Int32)), (0, .int a0)]) dX12_bits_3 rfl (Nat.le_of_ble_eq_true rfl) rfl ?_
  refine G.sub (lv' := [(0, .int a0), (1, .int (0 : Int32)), (2, .int (0 : Int32))]) [2, 1, 0] rfl ?_
  refine loopE (fun (s1 : Int32 × Int32) => G yX12_bits cX12_bits 3 (some .int) 0 4 [(0, .int a0), (1, .int s1.1), (2, .int s1.2)] [] M (some (.int o)) M) (fun (e1 : Int32) => G yX12_bits cX12_bits 3 (some .int) 0 24 [(1, .int e1)] [] M (some (.int o)) M) h ?_ ?_
  · intro e1 h
    show G yX12_bits cX12_bits 3 (some .int) 0 24 [(1, .int e1)] [] M (some (.int o)) M
    refine G.iload_n dX12_bits_24 rfl rfl ?_
    exact G.iret dX12_bits_25 rfl (rfl) h
  · intro s1 x1 h K1
    show G yX12_bits cX12_bits 3 (some .int) 0 4 [(0, .int a0), (1, .int s1.1), (2, .int s1.2)] [] M (some (.int o)) M
    refine G.iload_n dX12_bits_4 rfl rfl ?_
    refine G.bipush (10 : Int32) dX12_bits_5 kb_10 ?_
    refine G.icmp_ge 24 dX12_bits_7 (by decide) h (fun c2 h => ?_) (fun c2 h => ?_)
    · refine G.sub (lv' := [(1, .int s1.1)]) [1] rfl ?_
      have h := leafR' h K1
      exact h
    · refine G.iload_n dX12_bits_10 rfl rfl ?_
      refine G.iload_n dX12_bits_11 rfl rfl ?_
      refine G.iload_n dX12_bits_12 rfl rfl ?_
      refine G.ishr dX12_bits_13 ?_
      refine G.iconst (1 : Int32) dX12_bits_14 ki_1 ?_
      refine G.iand dX12_bits_15 ?_
      refine G.iadd dX12_bits_16 ?_
      refine lets_elim h (fun w3 ew3 h => ?_)
      rw [← ew3]
      refine G.istore_n (lv' := [(1, .int w3), (0, .int a0), (2, .int s1.2)]) dX12_bits_17 rfl (Nat.le_of_ble_eq_true rfl) rfl ?_
      refine G.iinc s1.2 (w := (s1.2 + (1 : Int32))) (lv' := [(2, .int (s1.2 + (1 : Int32))), (1, .int w3), (0, .int a0)]) dX12_bits_18 rfl rfl (Nat.le_of_ble_eq_true rfl) rfl ?_
      refine G.goto 4 dX12_bits_21 (by decide) ?_
      refine G.sub (lv' := [(0, .int a0), (1, .int w3), (2, .int (s1.2 + (1 : Int32)))]) [2, 1, 0] rfl ?_
      have h := leafL' h K1
      exact h
-- OnlyUpwardModel.termOf(II)I
set_option maxRecDepth 100000 in
set_option maxHeartbeats 4000000 in
def F_X12_termOf (n : Nat) (M : AM) (a0 : Nat) (a1 : Int32) (a2 : Int32) : Option (Int32 × AM) :=
  (pZ 12 60 M a0 (0 : Int32)).bind fun M1 => (iter (fun (s2 : Int32 × Int32 × AM) => if a2 ≤ s2.2.1 then some (.inr (.inl s2.2.2)) else (gR 12 54 s2.2.2 a0).bind fun v4 => (rdI s2.2.2 v4 s2.2.1).bind fun v5 => jn (fun (u6 : Int32) (M7 : AM) => some (.inl (u6, (s2.2.1 + (1 : Int32)), M7))) fun j8 => if (2 : Int32) ≤ v5 then (gR 12 59 s2.2.2 a0).bind fun v10 => (rdI s2.2.2 v10 ((s2.1 + (-1 : Int32)) - (1 : Int32))).bind fun v11 => (gR 12 59 s2.2.2 a0).bind fun v12 => (rdI s2.2.2 v12 (s2.1 + (-1 : Int32))).bind fun v13 => jn ((gR 12 59 s2.2.2 a0).bind fun v14 => jn (fun (u15 : Int32) => (wrI s2.2.2 v14 ((s2.1 + (-1 : Int32)) - (1 : Int32)) u15).bind fun M16 => j8 (s2.1 + (-1 : Int32)) M16) fun j17 => if v5 = (2 : Int32) then j17 (v11 + v13) else if v5 = (3 : Int32) then j17 (v11 - v13) else if v5 = (4 : Int32) then j17 (v11 * v13) else gd (¬ v13 = 0) (j17 (v11 / v13))) fun j22 => if v5 = (5 : Int32) then if v13 = 0 then (pZ 12 60 s2.2.2 a0 (1 : Int32)).bind fun M25 => some (.inr (.inr ((0 : Int32), M25))) else j22 else j22 else (gR 12 59 s2.2.2 a0).bind fun v26 => jn (fun (u27 : Int32) => (wrI s2.2.2 v26 s2.1 u27).bind fun M28 => j8 (s2.1 + (1 : Int32)) M28) fun j29 => if v5 = 0 then (gR 12 55 s2.2.2 a0).bind fun v31 => (rdI s2.2.2 v31 s2.2.1).bind fun v32 => j29 v32 else (gR 12 58 s2.2.2 a0).bind fun v33 => (gR 12 55 s2.2.2 a0).bind fun v34 => (rdI s2.2.2 v34 s2.2.1).bind fun v35 => (rdI s2.2.2 v33 v35).bind fun v36 => j29 v36) n ((0 : Int32), a1, M1)).bind fun (z2 : (AM) ⊕ (Int32 × AM)) => Sum.elim (fun (e2 : AM) => (gR 12 59 e2 a0).bind fun v37 => (rdI e2 v37 (0 : Int32)).bind fun v38 => some (v38, e2)) (fun (v : (Int32 × AM)) => some v) z2
set_option maxRecDepth 100000 in
set_option maxHeartbeats 4000000 in
theorem C_X12_termOf {n : Nat} {M : AM} {a0 : Nat} {a1 : Int32} {a2 : Int32} {o : (Int32 × AM)} (h : F_X12_termOf n M a0 a1 a2 = some o) : Cn yX12_termOf cX12_termOf 8 (some .int) 0 [.ref a0, .int a1, .int a2] M (some (.int o.1)) o.2 := by
  unfold F_X12_termOf at h
  refine Cn.of rfl (Nat.le_of_ble_eq_true rfl) ?_
  show G yX12_termOf cX12_termOf 8 (some .int) 0 0 [(0, .ref a0), (1, .int a1), (2, .int a2)] [] M (some (.int o.1)) o.2
  refine G.iconst (0 : Int32) dX12_termOf_0 ki_0 ?_
  refine G.istore_n (lv' := [(3, .int (0 : Int32)), (0, .ref a0), (1, .int a1), (2, .int a2)]) dX12_termOf_1 rfl (Nat.le_of_ble_eq_true rfl) rfl ?_
  refine G.aload_n dX12_termOf_2 rfl rfl ?_
  refine G.iconst (0 : Int32) dX12_termOf_3 ki_0 ?_
  refine G.putZ dX12_termOf_4 fkX12_373 nf12_60 ft12_60 h (fun M1 h => ?_)
  refine G.iload_n dX12_termOf_7 rfl rfl ?_
  refine G.istore (lv' := [(4, .int a1), (3, .int (0 : Int32)), (0, .ref a0), (1, .int a1), (2, .int a2)]) dX12_termOf_8 (Nat.le_of_ble_eq_true rfl) rfl ?_
  refine G.sub (lv' := [(0, .ref a0), (2, .int a2), (3, .int (0 : Int32)), (4, .int a1)]) [2, 4, 1, 0] rfl ?_
  refine loopE (fun (s2 : Int32 × Int32 × AM) => G yX12_termOf cX12_termOf 8 (some .int) 0 10 [(0, .ref a0), (2, .int a2), (3, .int s2.1), (4, .int s2.2.1)] [] s2.2.2 (some (.int o.1)) o.2) (fun (z2 : (AM) ⊕ (Int32 × AM)) => Sum.elim (fun (e2 : AM) => G yX12_termOf cX12_termOf 8 (some .int) 0 170 [(0, .ref a0)] [] e2 (some (.int o.1)) o.2) (fun (v : (Int32 × AM)) => some v = some o) z2) h ?_ ?_
  · intro z2 h
    rcases z2 with e2 | v
    · have h := sum_inl h
      show G yX12_termOf cX12_termOf 8 (some .int) 0 170 [(0, .ref a0)] [] e2 (some (.int o.1)) o.2
      refine G.aload_n dX12_termOf_170 rfl rfl ?_
      refine G.getR dX12_termOf_171 fkX12_146 fr12_59 h (fun v37 h => ?_)
      refine G.iconst (0 : Int32) dX12_termOf_174 ki_0 ?_
      refine G.iald dX12_termOf_175 h (fun v38 h => ?_)
      exact G.iretW dX12_termOf_176 rfl (rfl) h
    · have h := sum_inr h
      exact h
  · intro s2 x2 h K2
    show G yX12_termOf cX12_termOf 8 (some .int) 0 10 [(0, .ref a0), (2, .int a2), (3, .int s2.1), (4, .int s2.2.1)] [] s2.2.2 (some (.int o.1)) o.2
    refine G.iload dX12_termOf_10 rfl ?_
    refine G.iload_n dX12_termOf_12 rfl rfl ?_
    refine G.icmp_ge 170 dX12_termOf_13 (by decide) h (fun c3 h => ?_) (fun c3 h => ?_)
    · refine G.sub (lv' := [(0, .ref a0)]) [0] rfl ?_
      have h := leafR' h K2
      exact h
    · refine G.aload_n dX12_termOf_16 rfl rfl ?_
      refine G.getR dX12_termOf_17 fkX12_134 fr12_54 h (fun v4 h => ?_)
      refine G.iload dX12_termOf_20 rfl ?_
      refine G.iald dX12_termOf_22 h (fun v5 h => ?_)
      refine G.istore (lv' := [(5, .int v5), (0, .ref a0), (2, .int a2), (3, .int s2.1), (4, .int s2.2.1)]) dX12_termOf_23 (Nat.le_of_ble_eq_true rfl) rfl ?_
      refine G.iload dX12_termOf_25 rfl ?_
      refine G.iconst (2 : Int32) dX12_termOf_27 ki_2 ?_
      refine jn_elim (fun j8 => ∀ (u6 : Int32) (M7 : AM), j8 u6 M7 = some x2 → G yX12_termOf cX12_termOf 8 (some .int) 0 164 [(0, .ref a0), (2, .int a2), (3, .int u6), (4, .int s2.2.1)] [] M7 (some (.int o.1)) o.2) h ?_ ?_
      · intro u6 M7 h
        refine G.iinc s2.2.1 (w := (s2.2.1 + (1 : Int32))) (lv' := [(4, .int (s2.2.1 + (1 : Int32))), (0, .ref a0), (2, .int a2), (3, .int u6)]) dX12_termOf_164 rfl rfl (Nat.le_of_ble_eq_true rfl) rfl ?_
        refine G.goto 10 dX12_termOf_167 (by decide) ?_
        refine G.sub (lv' := [(0, .ref a0), (2, .int a2), (3, .int u6), (4, .int (s2.2.1 + (1 : Int32)))]) [1, 2, 3, 0] rfl ?_
        have h := leafL' h K2
        exact h
      · intro j8 Jj8 h
        refine G.icmp_ge 70 dX12_termOf_28 (by decide) h (fun c9 h => ?_) (fun c9 h => ?_)
        · refine G.iinc s2.1 (w := (s2.1 + (-1 : Int32))) (lv' := [(3, .int (s2.1 + (-1 : Int32))), (5, .int v5), (0, .ref a0), (2, .int a2), (4, .int s2.2.1)]) dX12_termOf_70 rfl rfl (Nat.le_of_ble_eq_true rfl) rfl ?_
          refine G.aload_n dX12_termOf_73 rfl rfl ?_
          refine G.getR dX12_termOf_74 fkX12_146 fr12_59 h (fun v10 h => ?_)
          refine G.iload_n dX12_termOf_77 rfl rfl ?_
          refine G.iconst (1 : Int32) dX12_termOf_78 ki_1 ?_
          refine G.isub dX12_termOf_79 ?_
          refine G.iald dX12_termOf_80 h (fun v11 h => ?_)
          refine G.istore (lv' := [(6, .int v11), (3, .int (s2.1 + (-1 : Int32))), (5, .int v5), (0, .ref a0), (2, .int a2), (4, .int s2.2.1)]) dX12_termOf_81 (Nat.le_of_ble_eq_true rfl) rfl ?_
          refine G.aload_n dX12_termOf_83 rfl rfl ?_
          refine G.getR dX12_termOf_84 fkX12_146 fr12_59 h (fun v12 h => ?_)
          refine G.iload_n dX12_termOf_87 rfl rfl ?_
          refine G.iald dX12_termOf_88 h (fun v13 h => ?_)
          refine G.istore (lv' := [(7, .int v13), (6, .int v11), (3, .int (s2.1 + (-1 : Int32))), (5, .int v5), (0, .ref a0), (2, .int a2), (4, .int s2.2.1)]) dX12_termOf_89 (Nat.le_of_ble_eq_true rfl) rfl ?_
          refine G.iload dX12_termOf_91 rfl ?_
          refine G.iconst (5 : Int32) dX12_termOf_93 ki_5 ?_
          refine jn_elim (fun j22 => j22 = some x2 → G yX12_termOf cX12_termOf 8 (some .int) 0 109 [(0, .ref a0), (2, .int a2), (3, .int (s2.1 + (-1 : Int32))), (4, .int s2.2.1), (5, .int v5), (6, .int v11), (7, .int v13)] [] s2.2.2 (some (.int o.1)) o.2) h ?_ ?_
          · intro h
            refine G.aload_n dX12_termOf_109 rfl rfl ?_
            refine G.getR dX12_termOf_110 fkX12_146 fr12_59 h (fun v14 h => ?_)
            refine G.iload_n dX12_termOf_113 rfl rfl ?_
            refine G.iconst (1 : Int32) dX12_termOf_114 ki_1 ?_
            refine G.isub dX12_termOf_115 ?_
            refine G.iload dX12_termOf_116 rfl ?_
            refine G.iconst (2 : Int32) dX12_termOf_118 ki_2 ?_
            refine jn_elim (fun j17 => ∀ (u15 : Int32), j17 u15 = some x2 → G yX12_termOf cX12_termOf 8 (some .int) 0 163 [(0, .ref a0), (2, .int a2), (3, .int (s2.1 + (-1 : Int32))), (4, .int s2.2.1)] [.int u15, .int ((s2.1 + (-1 : Int32)) - (1 : Int32)), .ref v14] s2.2.2 (some (.int o.1)) o.2) h ?_ ?_
            · intro u15 h
              refine G.iast dX12_termOf_163 h (fun M16 h => ?_)
              refine G.sub (lv' := [(0, .ref a0), (2, .int a2), (3, .int (s2.1 + (-1 : Int32))), (4, .int s2.2.1)]) [0, 1, 2, 3] rfl ?_
              exact Jj8 _ _ h
            · intro j17 Jj17 h
              refine G.icmp_ne 130 dX12_termOf_119 (by decide) h (fun c18 h => ?_) (fun c18 h => ?_)
              · refine G.iload dX12_termOf_122 rfl ?_
                refine G.iload dX12_termOf_124 rfl ?_
                refine G.iadd dX12_termOf_126 ?_
                refine G.goto 163 dX12_termOf_127 (by decide) ?_
                refine G.sub (lv' := [(0, .ref a0), (2, .int a2), (3, .int (s2.1 + (-1 : Int32))), (4, .int s2.2.1)]) [0, 1, 2, 3] rfl ?_
                exact Jj17 _ h
              · refine G.iload dX12_termOf_130 rfl ?_
                refine G.iconst (3 : Int32) dX12_termOf_132 ki_3 ?_
                refine G.icmp_ne 144 dX12_termOf_133 (by decide) h (fun c19 h => ?_) (fun c19 h => ?_)
                · refine G.iload dX12_termOf_136 rfl ?_
                  refine G.iload dX12_termOf_138 rfl ?_
                  refine G.isub dX12_termOf_140 ?_
                  refine G.goto 163 dX12_termOf_141 (by decide) ?_
                  refine G.sub (lv' := [(0, .ref a0), (2, .int a2), (3, .int (s2.1 + (-1 : Int32))), (4, .int s2.2.1)]) [0, 1, 2, 3] rfl ?_
                  exact Jj17 _ h
                · refine G.iload dX12_termOf_144 rfl ?_
                  refine G.iconst (4 : Int32) dX12_termOf_146 ki_4 ?_
                  refine G.icmp_ne 158 dX12_termOf_147 (by decide) h (fun c20 h => ?_) (fun c20 h => ?_)
                  · refine G.iload dX12_termOf_150 rfl ?_
                    refine G.iload dX12_termOf_152 rfl ?_
                    refine G.imul dX12_termOf_154 ?_
                    refine G.goto 163 dX12_termOf_155 (by decide) ?_
                    refine G.sub (lv' := [(0, .ref a0), (2, .int a2), (3, .int (s2.1 + (-1 : Int32))), (4, .int s2.2.1)]) [0, 1, 2, 3] rfl ?_
                    exact Jj17 _ h
                  · refine G.iload dX12_termOf_158 rfl ?_
                    refine G.iload dX12_termOf_160 rfl ?_
                    refine gd_elim h (fun c21 h => ?_)
                    refine G.idiv dX12_termOf_162 c21 ?_
                    refine G.sub (lv' := [(0, .ref a0), (2, .int a2), (3, .int (s2.1 + (-1 : Int32))), (4, .int s2.2.1)]) [0, 1, 2, 3] rfl ?_
                    exact Jj17 _ h
          · intro j22 Jj22 h
            refine G.icmp_ne 109 dX12_termOf_94 (by decide) h (fun c23 h => ?_) (fun c23 h => ?_)
            · refine G.iload dX12_termOf_97 rfl ?_
              refine G.if_ne 109 dX12_termOf_99 (by decide) h (fun c24 h => ?_) (fun c24 h => ?_)
              · refine G.aload_n dX12_termOf_102 rfl rfl ?_
                refine G.iconst (1 : Int32) dX12_termOf_103 ki_1 ?_
                refine G.putZ dX12_termOf_104 fkX12_373 nf12_60 ft12_60 h (fun M25 h => ?_)
                refine G.iconst (0 : Int32) dX12_termOf_107 ki_0 ?_
                have h := leafR' h K2
                exact G.iretW dX12_termOf_108 rfl (rfl) h
              · refine G.sub (lv' := [(0, .ref a0), (2, .int a2), (3, .int (s2.1 + (-1 : Int32))), (4, .int s2.2.1), (5, .int v5), (6, .int v11), (7, .int v13)]) [4, 5, 2, 6, 3, 1, 0] rfl ?_
                exact Jj22  h
            · refine G.sub (lv' := [(0, .ref a0), (2, .int a2), (3, .int (s2.1 + (-1 : Int32))), (4, .int s2.2.1), (5, .int v5), (6, .int v11), (7, .int v13)]) [4, 5, 2, 6, 3, 1, 0] rfl ?_
              exact Jj22  h
        · refine G.aload_n dX12_termOf_31 rfl rfl ?_
          refine G.getR dX12_termOf_32 fkX12_146 fr12_59 h (fun v26 h => ?_)
          refine G.iload_n dX12_termOf_35 rfl rfl ?_
          refine G.iload dX12_termOf_36 rfl ?_
          refine jn_elim (fun j29 => ∀ (u27 : Int32), j29 u27 = some x2 → G yX12_termOf cX12_termOf 8 (some .int) 0 63 [(0, .ref a0), (2, .int a2), (3, .int s2.1), (4, .int s2.2.1)] [.int u27, .int s2.1, .ref v26] s2.2.2 (some (.int o.1)) o.2) h ?_ ?_
          · intro u27 h
            refine G.iast dX12_termOf_63 h (fun M28 h => ?_)
            refine G.iinc s2.1 (w := (s2.1 + (1 : Int32))) (lv' := [(3, .int (s2.1 + (1 : Int32))), (0, .ref a0), (2, .int a2), (4, .int s2.2.1)]) dX12_termOf_64 rfl rfl (Nat.le_of_ble_eq_true rfl) rfl ?_
            refine G.goto 164 dX12_termOf_67 (by decide) ?_
            refine G.sub (lv' := [(0, .ref a0), (2, .int a2), (3, .int (s2.1 + (1 : Int32))), (4, .int s2.2.1)]) [1, 2, 0, 3] rfl ?_
            exact Jj8 _ _ h
          · intro j29 Jj29 h
            refine G.if_ne 51 dX12_termOf_38 (by decide) h (fun c30 h => ?_) (fun c30 h => ?_)
            · refine G.aload_n dX12_termOf_41 rfl rfl ?_
              refine G.getR dX12_termOf_42 fkX12_137 fr12_55 h (fun v31 h => ?_)
              refine G.iload dX12_termOf_45 rfl ?_
              refine G.iald dX12_termOf_47 h (fun v32 h => ?_)
              refine G.goto 63 dX12_termOf_48 (by decide) ?_
              refine G.sub (lv' := [(0, .ref a0), (2, .int a2), (3, .int s2.1), (4, .int s2.2.1)]) [1, 2, 3, 4] rfl ?_
              exact Jj29 _ h
            · refine G.aload_n dX12_termOf_51 rfl rfl ?_
              refine G.getR dX12_termOf_52 fkX12_143 fr12_58 h (fun v33 h => ?_)
              refine G.aload_n dX12_termOf_55 rfl rfl ?_
              refine G.getR dX12_termOf_56 fkX12_137 fr12_55 h (fun v34 h => ?_)
              refine G.iload dX12_termOf_59 rfl ?_
              refine G.iald dX12_termOf_61 h (fun v35 h => ?_)
              refine G.iald dX12_termOf_62 h (fun v36 h => ?_)
              refine G.sub (lv' := [(0, .ref a0), (2, .int a2), (3, .int s2.1), (4, .int s2.2.1)]) [1, 2, 3, 4] rfl ?_
              exact Jj29 _ h
-- OnlyUpwardModel.isTrue(I)Z
set_option maxRecDepth 100000 in
set_option maxHeartbeats 4000000 in
def F_X12_isTrue (n : Nat) (M : AM) (a0 : Nat) (a1 : Int32) : Option (Int32 × AM) :=
  (gR 12 50 M a0).bind fun v1 => (rdI M v1 a1).bind fun v2 => (gR 12 51 M a0).bind fun v3 => (rdI M v3 a1).bind fun v4 => (rcv 12 M a0 (F_X12_termOf n M a0 v2 v4)).bind fun v5 => (gI 12 60 v5.2 a0).bind fun v6 => (gR 12 51 v5.2 a0).bind fun v7 => (rdI v5.2 v7 a1).bind fun v8 => (gR 12 52 v5.2 a0).bind fun v9 => (rdI v5.2 v9 a1).bind fun v10 => (rcv 12 v5.2 a0 (F_X12_termOf n v5.2 a0 v8 v10)).bind fun v11 => jn (fun (u12 : Int32) => (gR 12 47 v11.2 a0).bind fun v13 => (rdI v11.2 v13 a1).bind fun v14 => jn (fun (u15 : Int32) => jn (fun (u16 : Int32) => (gR 12 48 v11.2 a0).bind fun v17 => (rdB v11.2 v17 a1).bind fun v18 => if u16 = v18 then some ((0 : Int32), v11.2) else some ((1 : Int32), v11.2)) fun j20 => jn (j20 (0 : Int32)) fun j21 => if u15 = 0 then j21 else if u12 = 0 then j20 (1 : Int32) else j21) fun j24 => if v14 = 0 then if v5.1 = v11.1 then j24 (1 : Int32) else j24 (0 : Int32) else (gR 12 47 v11.2 a0).bind fun v27 => (rdI v11.2 v27 a1).bind fun v28 => if v28 = (1 : Int32) then if v5.1 = v11.1 then j24 (0 : Int32) else j24 (1 : Int32) else (gR 12 47 v11.2 a0).bind fun v31 => (rdI v11.2 v31 a1).bind fun v32 => if v32 = (2 : Int32) then if v11.1 ≤ v5.1 then j24 (0 : Int32) else j24 (1 : Int32) else if v11.1 < v5.1 then j24 (0 : Int32) else j24 (1 : Int32)) fun j36 => jn (j36 (1 : Int32)) fun j37 => if v6 = 0 then (gI 12 60 v11.2 a0).bind fun v39 => if v39 = 0 then j36 (0 : Int32) else j37 else j37
set_option maxRecDepth 100000 in
set_option maxHeartbeats 4000000 in
theorem C_X12_isTrue {n : Nat} {M : AM} {a0 : Nat} {a1 : Int32} {o : (Int32 × AM)} (h : F_X12_isTrue n M a0 a1 = some o) : Cn yX12_isTrue cX12_isTrue 6 (some .boolean) 1 [.ref a0, .int a1] M (some (.int o.1)) o.2 := by
  unfold F_X12_isTrue at h
  refine Cn.of rfl (Nat.le_of_ble_eq_true rfl) ?_
  show G yX12_isTrue cX12_isTrue 6 (some .boolean) 1 0 [(0, .ref a0), (1, .int a1)] [] M (some (.int o.1)) o.2
  refine G.aload_n dX12_isTrue_0 rfl rfl ?_
  refine G.aload_n dX12_isTrue_1 rfl rfl ?_
  refine G.getR dX12_isTrue_2 fkX12_125 fr12_50 h (fun v1 h => ?_)
  refine G.iload_n dX12_isTrue_5 rfl rfl ?_
  refine G.iald dX12_isTrue_6 h (fun v2 h => ?_)
  refine G.aload_n dX12_isTrue_7 rfl rfl ?_
  refine G.getR dX12_isTrue_8 fkX12_128 fr12_51 h (fun v3 h => ?_)
  refine G.iload_n dX12_isTrue_11 rfl rfl ?_
  refine G.iald dX12_isTrue_12 h (fun v4 h => ?_)
  refine G.callVi (ci := 12) [.int v2, .int v4] [] dX12_isTrue_13 lkX12_377 okX12_termOf rfl (fun v hv => C_X12_termOf hv) (Nat.le_of_ble_eq_true rfl) rfl rfl (Nat.le_of_ble_eq_true rfl) h (fun v5 h => ?_)
  refine G.istore_n (lv' := [(2, .int v5.1), (0, .ref a0), (1, .int a1)]) dX12_isTrue_16 rfl (Nat.le_of_ble_eq_true rfl) rfl ?_
  refine G.aload_n dX12_isTrue_17 rfl rfl ?_
  refine G.getI dX12_isTrue_18 fkX12_373 fr12_60 h (fun v6 h => ?_)
  refine G.istore_n (lv' := [(3, .int v6), (2, .int v5.1), (0, .ref a0), (1, .int a1)]) dX12_isTrue_21 rfl (Nat.le_of_ble_eq_true rfl) rfl ?_
  refine G.aload_n dX12_isTrue_22 rfl rfl ?_
  refine G.aload_n dX12_isTrue_23 rfl rfl ?_
  refine G.getR dX12_isTrue_24 fkX12_128 fr12_51 h (fun v7 h => ?_)
  refine G.iload_n dX12_isTrue_27 rfl rfl ?_
  refine G.iald dX12_isTrue_28 h (fun v8 h => ?_)
  refine G.aload_n dX12_isTrue_29 rfl rfl ?_
  refine G.getR dX12_isTrue_30 fkX12_131 fr12_52 h (fun v9 h => ?_)
  refine G.iload_n dX12_isTrue_33 rfl rfl ?_
  refine G.iald dX12_isTrue_34 h (fun v10 h => ?_)
  refine G.callVi (ci := 12) [.int v8, .int v10] [] dX12_isTrue_35 lkX12_377 okX12_termOf rfl (fun v hv => C_X12_termOf hv) (Nat.le_of_ble_eq_true rfl) rfl rfl (Nat.le_of_ble_eq_true rfl) h (fun v11 h => ?_)
  refine G.istore (lv' := [(4, .int v11.1), (3, .int v6), (2, .int v5.1), (0, .ref a0), (1, .int a1)]) dX12_isTrue_38 (Nat.le_of_ble_eq_true rfl) rfl ?_
  refine G.iload_n dX12_isTrue_40 rfl rfl ?_
  refine jn_elim (fun j36 => ∀ (u12 : Int32), j36 u12 = some o → G yX12_isTrue cX12_isTrue 6 (some .boolean) 1 56 [(0, .ref a0), (1, .int a1), (2, .int v5.1), (4, .int v11.1)] [.int u12] v11.2 (some (.int o.1)) o.2) h ?_ ?_
  · intro u12 h
    refine G.istore_n (lv' := [(3, .int u12), (0, .ref a0), (1, .int a1), (2, .int v5.1), (4, .int v11.1)]) dX12_isTrue_56 rfl (Nat.le_of_ble_eq_true rfl) rfl ?_
    refine G.aload_n dX12_isTrue_57 rfl rfl ?_
    refine G.getR dX12_isTrue_58 fkX12_115 fr12_47 h (fun v13 h => ?_)
    refine G.iload_n dX12_isTrue_61 rfl rfl ?_
    refine G.iald dX12_isTrue_62 h (fun v14 h => ?_)
    refine jn_elim (fun j24 => ∀ (u15 : Int32), j24 u15 = some o → G yX12_isTrue cX12_isTrue 6 (some .boolean) 1 139 [(0, .ref a0), (1, .int a1), (3, .int u12)] [.int u15] v11.2 (some (.int o.1)) o.2) h ?_ ?_
    · intro u15 h
      refine G.istore (lv' := [(5, .int u15), (0, .ref a0), (1, .int a1), (3, .int u12)]) dX12_isTrue_139 (Nat.le_of_ble_eq_true rfl) rfl ?_
      refine G.iload dX12_isTrue_141 rfl ?_
      refine jn_elim (fun j20 => ∀ (u16 : Int32), j20 u16 = some o → G yX12_isTrue cX12_isTrue 6 (some .boolean) 1 155 [(0, .ref a0), (1, .int a1)] [.int u16] v11.2 (some (.int o.1)) o.2) h ?_ ?_
      · intro u16 h
        refine G.aload_n dX12_isTrue_155 rfl rfl ?_
        refine G.getR dX12_isTrue_156 fkX12_118 fr12_48 h (fun v17 h => ?_)
        refine G.iload_n dX12_isTrue_159 rfl rfl ?_
        refine G.bald dX12_isTrue_160 h (fun v18 h => ?_)
        refine G.icmp_eq 168 dX12_isTrue_161 (by decide) h (fun c19 h => ?_) (fun c19 h => ?_)
        · refine G.iconst (0 : Int32) dX12_isTrue_168 ki_0 ?_
          exact G.iretW dX12_isTrue_169 rfl (by decide) h
        · refine G.iconst (1 : Int32) dX12_isTrue_164 ki_1 ?_
          refine G.goto 169 dX12_isTrue_165 (by decide) ?_
          exact G.iretW dX12_isTrue_169 rfl (by decide) h
      · intro j20 Jj20 h
        refine jn_elim (fun j21 => j21 = some o → G yX12_isTrue cX12_isTrue 6 (some .boolean) 1 154 [(0, .ref a0), (1, .int a1)] [] v11.2 (some (.int o.1)) o.2) h ?_ ?_
        · intro h
          refine G.iconst (0 : Int32) dX12_isTrue_154 ki_0 ?_
          refine G.sub (lv' := [(0, .ref a0), (1, .int a1)]) [0, 1] rfl ?_
          exact Jj20 _ h
        · intro j21 Jj21 h
          refine G.if_eq 154 dX12_isTrue_143 (by decide) h (fun c22 h => ?_) (fun c22 h => ?_)
          · refine G.sub (lv' := [(0, .ref a0), (1, .int a1)]) [1, 2] rfl ?_
            exact Jj21  h
          · refine G.iload_n dX12_isTrue_146 rfl rfl ?_
            refine G.if_ne 154 dX12_isTrue_147 (by decide) h (fun c23 h => ?_) (fun c23 h => ?_)
            · refine G.iconst (1 : Int32) dX12_isTrue_150 ki_1 ?_
              refine G.goto 155 dX12_isTrue_151 (by decide) ?_
              refine G.sub (lv' := [(0, .ref a0), (1, .int a1)]) [1, 2] rfl ?_
              exact Jj20 _ h
            · refine G.sub (lv' := [(0, .ref a0), (1, .int a1)]) [1, 2] rfl ?_
              exact Jj21  h
    · intro j24 Jj24 h
      refine G.if_ne 80 dX12_isTrue_63 (by decide) h (fun c25 h => ?_) (fun c25 h => ?_)
      · refine G.iload_n dX12_isTrue_66 rfl rfl ?_
        refine G.iload dX12_isTrue_67 rfl ?_
        refine G.icmp_ne 76 dX12_isTrue_69 (by decide) h (fun c26 h => ?_) (fun c26 h => ?_)
        · refine G.iconst (1 : Int32) dX12_isTrue_72 ki_1 ?_
          refine G.goto 139 dX12_isTrue_73 (by decide) ?_
          refine G.sub (lv' := [(0, .ref a0), (1, .int a1), (3, .int u12)]) [1, 2, 0] rfl ?_
          exact Jj24 _ h
        · refine G.iconst (0 : Int32) dX12_isTrue_76 ki_0 ?_
          refine G.goto 139 dX12_isTrue_77 (by decide) ?_
          refine G.sub (lv' := [(0, .ref a0), (1, .int a1), (3, .int u12)]) [1, 2, 0] rfl ?_
          exact Jj24 _ h
      · refine G.aload_n dX12_isTrue_80 rfl rfl ?_
        refine G.getR dX12_isTrue_81 fkX12_115 fr12_47 h (fun v27 h => ?_)
        refine G.iload_n dX12_isTrue_84 rfl rfl ?_
        refine G.iald dX12_isTrue_85 h (fun v28 h => ?_)
        refine G.iconst (1 : Int32) dX12_isTrue_86 ki_1 ?_
        refine G.icmp_ne 104 dX12_isTrue_87 (by decide) h (fun c29 h => ?_) (fun c29 h => ?_)
        · refine G.iload_n dX12_isTrue_90 rfl rfl ?_
          refine G.iload dX12_isTrue_91 rfl ?_
          refine G.icmp_eq 100 dX12_isTrue_93 (by decide) h (fun c30 h => ?_) (fun c30 h => ?_)
          · refine G.iconst (0 : Int32) dX12_isTrue_100 ki_0 ?_
            refine G.goto 139 dX12_isTrue_101 (by decide) ?_
            refine G.sub (lv' := [(0, .ref a0), (1, .int a1), (3, .int u12)]) [1, 2, 0] rfl ?_
            exact Jj24 _ h
          · refine G.iconst (1 : Int32) dX12_isTrue_96 ki_1 ?_
            refine G.goto 139 dX12_isTrue_97 (by decide) ?_
            refine G.sub (lv' := [(0, .ref a0), (1, .int a1), (3, .int u12)]) [1, 2, 0] rfl ?_
            exact Jj24 _ h
        · refine G.aload_n dX12_isTrue_104 rfl rfl ?_
          refine G.getR dX12_isTrue_105 fkX12_115 fr12_47 h (fun v31 h => ?_)
          refine G.iload_n dX12_isTrue_108 rfl rfl ?_
          refine G.iald dX12_isTrue_109 h (fun v32 h => ?_)
          refine G.iconst (2 : Int32) dX12_isTrue_110 ki_2 ?_
          refine G.icmp_ne 128 dX12_isTrue_111 (by decide) h (fun c33 h => ?_) (fun c33 h => ?_)
          · refine G.iload_n dX12_isTrue_114 rfl rfl ?_
            refine G.iload dX12_isTrue_115 rfl ?_
            refine G.icmp_ge 124 dX12_isTrue_117 (by decide) h (fun c34 h => ?_) (fun c34 h => ?_)
            · refine G.iconst (0 : Int32) dX12_isTrue_124 ki_0 ?_
              refine G.goto 139 dX12_isTrue_125 (by decide) ?_
              refine G.sub (lv' := [(0, .ref a0), (1, .int a1), (3, .int u12)]) [1, 2, 0] rfl ?_
              exact Jj24 _ h
            · refine G.iconst (1 : Int32) dX12_isTrue_120 ki_1 ?_
              refine G.goto 139 dX12_isTrue_121 (by decide) ?_
              refine G.sub (lv' := [(0, .ref a0), (1, .int a1), (3, .int u12)]) [1, 2, 0] rfl ?_
              exact Jj24 _ h
          · refine G.iload_n dX12_isTrue_128 rfl rfl ?_
            refine G.iload dX12_isTrue_129 rfl ?_
            refine G.icmp_gt 138 dX12_isTrue_131 (by decide) h (fun c35 h => ?_) (fun c35 h => ?_)
            · refine G.iconst (0 : Int32) dX12_isTrue_138 ki_0 ?_
              refine G.sub (lv' := [(0, .ref a0), (1, .int a1), (3, .int u12)]) [1, 2, 0] rfl ?_
              exact Jj24 _ h
            · refine G.iconst (1 : Int32) dX12_isTrue_134 ki_1 ?_
              refine G.goto 139 dX12_isTrue_135 (by decide) ?_
              refine G.sub (lv' := [(0, .ref a0), (1, .int a1), (3, .int u12)]) [1, 2, 0] rfl ?_
              exact Jj24 _ h
  · intro j36 Jj36 h
    refine jn_elim (fun j37 => j37 = some o → G yX12_isTrue cX12_isTrue 6 (some .boolean) 1 51 [(0, .ref a0), (1, .int a1), (2, .int v5.1), (4, .int v11.1)] [] v11.2 (some (.int o.1)) o.2) h ?_ ?_
    · intro h
      refine G.iconst (1 : Int32) dX12_isTrue_51 ki_1 ?_
      refine G.goto 56 dX12_isTrue_52 (by decide) ?_
      refine G.sub (lv' := [(0, .ref a0), (1, .int a1), (2, .int v5.1), (4, .int v11.1)]) [0, 1, 2, 3] rfl ?_
      exact Jj36 _ h
    · intro j37 Jj37 h
      refine G.if_ne 51 dX12_isTrue_41 (by decide) h (fun c38 h => ?_) (fun c38 h => ?_)
      · refine G.aload_n dX12_isTrue_44 rfl rfl ?_
        refine G.getI dX12_isTrue_45 fkX12_373 fr12_60 h (fun v39 h => ?_)
        refine G.if_eq 55 dX12_isTrue_48 (by decide) h (fun c40 h => ?_) (fun c40 h => ?_)
        · refine G.iconst (0 : Int32) dX12_isTrue_55 ki_0 ?_
          refine G.sub (lv' := [(0, .ref a0), (1, .int a1), (2, .int v5.1), (4, .int v11.1)]) [3, 4, 2, 0] rfl ?_
          exact Jj36 _ h
        · refine G.sub (lv' := [(0, .ref a0), (1, .int a1), (2, .int v5.1), (4, .int v11.1)]) [3, 4, 2, 0] rfl ?_
          exact Jj37  h
      · refine G.sub (lv' := [(0, .ref a0), (1, .int a1), (2, .int v5.1), (4, .int v11.1)]) [3, 4, 2, 0] rfl ?_
        exact Jj37  h
-- OnlyUpwardModel.holdsRule(I)Z
set_option maxRecDepth 100000 in
set_option maxHeartbeats 4000000 in
def F_X12_holdsRule (n : Nat) (M : AM) (a0 : Nat) (a1 : Int32) : Option (Int32 × AM) :=
  (gR 12 44 M a0).bind fun v1 => (rdI M v1 a1).bind fun v2 => (iter (fun (s3 : Int32 × Int32 × AM) => (gR 12 45 s3.2.2 a0).bind fun v4 => (rdI s3.2.2 v4 a1).bind fun v5 => if v5 ≤ s3.2.1 then some (.inr (.inl (s3.1, s3.2.2))) else (gR 12 49 s3.2.2 a0).bind fun v7 => (rdB s3.2.2 v7 s3.2.1).bind fun v8 => jn ((gR 12 49 s3.2.2 a0).bind fun v9 => (rdB s3.2.2 v9 s3.2.1).bind fun v10 => jn (fun (u11 : Int32) => jn (fun (u12 : Int32) (M13 : AM) => some (.inl (u12, (s3.2.1 + (1 : Int32)), M13))) fun j14 => jn (fun (M15 : AM) => j14 (0 : Int32) M15) fun j16 => if u11 = 0 then j16 s3.2.2 else (rcv 12 s3.2.2 a0 (F_X12_isTrue n s3.2.2 a0 s3.2.1)).bind fun v18 => if v18.1 = 0 then j16 v18.2 else j14 (1 : Int32) v18.2) fun j20 => if v10 = 0 then j20 s3.1 else j20 (1 : Int32)) fun j22 => if v8 = 0 then j22 else if s3.1 = 0 then j22 else some (.inr (.inr ((1 : Int32), s3.2.2)))) n ((0 : Int32), v2, M)).bind fun (z3 : (Int32 × AM) ⊕ (Int32 × AM)) => Sum.elim (fun (e3 : Int32 × AM) => gd (narrow .boolean (.int e3.1) = .int e3.1) (some (e3.1, e3.2))) (fun (v : (Int32 × AM)) => some v) z3
set_option maxRecDepth 100000 in
set_option maxHeartbeats 4000000 in
theorem C_X12_holdsRule {n : Nat} {M : AM} {a0 : Nat} {a1 : Int32} {o : (Int32 × AM)} (h : F_X12_holdsRule n M a0 a1 = some o) : Cn yX12_holdsRule cX12_holdsRule 4 (some .boolean) 2 [.ref a0, .int a1] M (some (.int o.1)) o.2 := by
  unfold F_X12_holdsRule at h
  refine Cn.of rfl (Nat.le_of_ble_eq_true rfl) ?_
  show G yX12_holdsRule cX12_holdsRule 4 (some .boolean) 2 0 [(0, .ref a0), (1, .int a1)] [] M (some (.int o.1)) o.2
  refine G.iconst (0 : Int32) dX12_holdsRule_0 ki_0 ?_
  refine G.istore_n (lv' := [(2, .int (0 : Int32)), (0, .ref a0), (1, .int a1)]) dX12_holdsRule_1 rfl (Nat.le_of_ble_eq_true rfl) rfl ?_
  refine G.aload_n dX12_holdsRule_2 rfl rfl ?_
  refine G.getR dX12_holdsRule_3 fkX12_109 fr12_44 h (fun v1 h => ?_)
  refine G.iload_n dX12_holdsRule_6 rfl rfl ?_
  refine G.iald dX12_holdsRule_7 h (fun v2 h => ?_)
  refine G.istore_n (lv' := [(3, .int v2), (2, .int (0 : Int32)), (0, .ref a0), (1, .int a1)]) dX12_holdsRule_8 rfl (Nat.le_of_ble_eq_true rfl) rfl ?_
  refine G.sub (lv' := [(0, .ref a0), (1, .int a1), (2, .int (0 : Int32)), (3, .int v2)]) [2, 3, 1, 0] rfl ?_
  refine loopE (fun (s3 : Int32 × Int32 × AM) => G yX12_holdsRule cX12_holdsRule 4 (some .boolean) 2 9 [(0, .ref a0), (1, .int a1), (2, .int s3.1), (3, .int s3.2.1)] [] s3.2.2 (some (.int o.1)) o.2) (fun (z3 : (Int32 × AM) ⊕ (Int32 × AM)) => Sum.elim (fun (e3 : Int32 × AM) => G yX12_holdsRule cX12_holdsRule 4 (some .boolean) 2 69 [(2, .int e3.1)] [] e3.2 (some (.int o.1)) o.2) (fun (v : (Int32 × AM)) => some v = some o) z3) h ?_ ?_
  · intro z3 h
    rcases z3 with e3 | v
    · have h := sum_inl h
      show G yX12_holdsRule cX12_holdsRule 4 (some .boolean) 2 69 [(2, .int e3.1)] [] e3.2 (some (.int o.1)) o.2
      refine G.iload_n dX12_holdsRule_69 rfl rfl ?_
      refine gd_elim h (fun c25 h => ?_)
      exact G.iretW dX12_holdsRule_70 rfl (c25) h
    · have h := sum_inr h
      exact h
  · intro s3 x3 h K3
    show G yX12_holdsRule cX12_holdsRule 4 (some .boolean) 2 9 [(0, .ref a0), (1, .int a1), (2, .int s3.1), (3, .int s3.2.1)] [] s3.2.2 (some (.int o.1)) o.2
    refine G.iload_n dX12_holdsRule_9 rfl rfl ?_
    refine G.aload_n dX12_holdsRule_10 rfl rfl ?_
    refine G.getR dX12_holdsRule_11 fkX12_112 fr12_45 h (fun v4 h => ?_)
    refine G.iload_n dX12_holdsRule_14 rfl rfl ?_
    refine G.iald dX12_holdsRule_15 h (fun v5 h => ?_)
    refine G.icmp_ge 69 dX12_holdsRule_16 (by decide) h (fun c6 h => ?_) (fun c6 h => ?_)
    · refine G.sub (lv' := [(2, .int s3.1)]) [2] rfl ?_
      have h := leafR' h K3
      exact h
    · refine G.aload_n dX12_holdsRule_19 rfl rfl ?_
      refine G.getR dX12_holdsRule_20 fkX12_122 fr12_49 h (fun v7 h => ?_)
      refine G.iload_n dX12_holdsRule_23 rfl rfl ?_
      refine G.bald dX12_holdsRule_24 h (fun v8 h => ?_)
      refine jn_elim (fun j22 => j22 = some x3 → G yX12_holdsRule cX12_holdsRule 4 (some .boolean) 2 34 [(0, .ref a0), (1, .int a1), (2, .int s3.1), (3, .int s3.2.1)] [] s3.2.2 (some (.int o.1)) o.2) h ?_ ?_
      · intro h
        refine G.aload_n dX12_holdsRule_34 rfl rfl ?_
        refine G.getR dX12_holdsRule_35 fkX12_122 fr12_49 h (fun v9 h => ?_)
        refine G.iload_n dX12_holdsRule_38 rfl rfl ?_
        refine G.bald dX12_holdsRule_39 h (fun v10 h => ?_)
        refine jn_elim (fun j20 => ∀ (u11 : Int32), j20 u11 = some x3 → G yX12_holdsRule cX12_holdsRule 4 (some .boolean) 2 45 [(0, .ref a0), (1, .int a1), (2, .int u11), (3, .int s3.2.1)] [] s3.2.2 (some (.int o.1)) o.2) h ?_ ?_
        · intro u11 h
          refine G.iload_n dX12_holdsRule_45 rfl rfl ?_
          refine jn_elim (fun j14 => ∀ (u12 : Int32) (M13 : AM), j14 u12 M13 = some x3 → G yX12_holdsRule cX12_holdsRule 4 (some .boolean) 2 62 [(0, .ref a0), (1, .int a1), (3, .int s3.2.1)] [.int u12] M13 (some (.int o.1)) o.2) h ?_ ?_
          · intro u12 M13 h
            refine G.istore_n (lv' := [(2, .int u12), (0, .ref a0), (1, .int a1), (3, .int s3.2.1)]) dX12_holdsRule_62 rfl (Nat.le_of_ble_eq_true rfl) rfl ?_
            refine G.iinc s3.2.1 (w := (s3.2.1 + (1 : Int32))) (lv' := [(3, .int (s3.2.1 + (1 : Int32))), (2, .int u12), (0, .ref a0), (1, .int a1)]) dX12_holdsRule_63 rfl rfl (Nat.le_of_ble_eq_true rfl) rfl ?_
            refine G.goto 9 dX12_holdsRule_66 (by decide) ?_
            refine G.sub (lv' := [(0, .ref a0), (1, .int a1), (2, .int u12), (3, .int (s3.2.1 + (1 : Int32)))]) [2, 3, 1, 0] rfl ?_
            have h := leafL' h K3
            exact h
          · intro j14 Jj14 h
            refine jn_elim (fun j16 => ∀ (M15 : AM), j16 M15 = some x3 → G yX12_holdsRule cX12_holdsRule 4 (some .boolean) 2 61 [(0, .ref a0), (1, .int a1), (3, .int s3.2.1)] [] M15 (some (.int o.1)) o.2) h ?_ ?_
            · intro M15 h
              refine G.iconst (0 : Int32) dX12_holdsRule_61 ki_0 ?_
              refine G.sub (lv' := [(0, .ref a0), (1, .int a1), (3, .int s3.2.1)]) [0, 1, 2] rfl ?_
              exact Jj14 _ _ h
            · intro j16 Jj16 h
              refine G.if_eq 61 dX12_holdsRule_46 (by decide) h (fun c17 h => ?_) (fun c17 h => ?_)
              · refine G.sub (lv' := [(0, .ref a0), (1, .int a1), (3, .int s3.2.1)]) [0, 1, 3] rfl ?_
                exact Jj16 _ h
              · refine G.aload_n dX12_holdsRule_49 rfl rfl ?_
                refine G.iload_n dX12_holdsRule_50 rfl rfl ?_
                refine G.callVi (ci := 12) [.int s3.2.1] [] dX12_holdsRule_51 lkX12_380 okX12_isTrue rfl (fun v hv => C_X12_isTrue hv) (Nat.le_of_ble_eq_true rfl) rfl rfl (Nat.le_of_ble_eq_true rfl) h (fun v18 h => ?_)
                refine G.if_eq 61 dX12_holdsRule_54 (by decide) h (fun c19 h => ?_) (fun c19 h => ?_)
                · refine G.sub (lv' := [(0, .ref a0), (1, .int a1), (3, .int s3.2.1)]) [0, 1, 3] rfl ?_
                  exact Jj16 _ h
                · refine G.iconst (1 : Int32) dX12_holdsRule_57 ki_1 ?_
                  refine G.goto 62 dX12_holdsRule_58 (by decide) ?_
                  refine G.sub (lv' := [(0, .ref a0), (1, .int a1), (3, .int s3.2.1)]) [0, 1, 3] rfl ?_
                  exact Jj14 _ _ h
        · intro j20 Jj20 h
          refine G.if_eq 45 dX12_holdsRule_40 (by decide) h (fun c21 h => ?_) (fun c21 h => ?_)
          · refine G.sub (lv' := [(0, .ref a0), (1, .int a1), (2, .int s3.1), (3, .int s3.2.1)]) [0, 1, 2, 3] rfl ?_
            exact Jj20 _ h
          · refine G.iconst (1 : Int32) dX12_holdsRule_43 ki_1 ?_
            refine G.istore_n (lv' := [(2, .int (1 : Int32)), (0, .ref a0), (1, .int a1), (3, .int s3.2.1)]) dX12_holdsRule_44 rfl (Nat.le_of_ble_eq_true rfl) rfl ?_
            refine G.sub (lv' := [(0, .ref a0), (1, .int a1), (2, .int (1 : Int32)), (3, .int s3.2.1)]) [1, 2, 0, 3] rfl ?_
            exact Jj20 _ h
      · intro j22 Jj22 h
        refine G.if_eq 34 dX12_holdsRule_25 (by decide) h (fun c23 h => ?_) (fun c23 h => ?_)
        · refine G.sub (lv' := [(0, .ref a0), (1, .int a1), (2, .int s3.1), (3, .int s3.2.1)]) [0, 1, 2, 3] rfl ?_
          exact Jj22  h
        · refine G.iload_n dX12_holdsRule_28 rfl rfl ?_
          refine G.if_eq 34 dX12_holdsRule_29 (by decide) h (fun c24 h => ?_) (fun c24 h => ?_)
          · refine G.sub (lv' := [(0, .ref a0), (1, .int a1), (2, .int s3.1), (3, .int s3.2.1)]) [0, 1, 2, 3] rfl ?_
            exact Jj22  h
          · refine G.iconst (1 : Int32) dX12_holdsRule_32 ki_1 ?_
            have h := leafR' h K3
            exact G.iretW dX12_holdsRule_33 rfl (by decide) h
