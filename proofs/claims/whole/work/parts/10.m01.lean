-- OnlyUpwardModel.cut()V
set_option maxRecDepth 100000 in
set_option maxHeartbeats 4000000 in
def F_X12_cut (n : Nat) (M : AM) (a0 : Nat) : Option AM :=
  (pI 12 10 M a0 (0 : Int32)).bind fun M1 => (iter (fun (s2 : Int32 × AM) => (gI 12 10 s2.2 a0).bind fun v3 => if (400 : Int32) < v3 then some (.inr (.inl s2.2)) else (rcv 12 s2.2 a0 (F_X12_byteAt n s2.2 a0 s2.1)).bind fun v5 => (gI 12 4 s2.2 a0).bind fun v6 => if s2.1 < v6 then jn (fun (u8 : Int32) (M9 : AM) => some (.inl (u8, M9))) fun j10 => jn (j10 (s2.1 + (1 : Int32)) s2.2) fun j11 => if v5 = (9 : Int32) then j11 else if v5 = (10 : Int32) then j11 else if v5 = (13 : Int32) then j11 else if v5 = (32 : Int32) then j11 else (F_X12_isLetter n s2.2 v5).bind fun v16 => if v16 = 0 then (F_X12_isDigit n s2.2 v5).bind fun v18 => if v18 = 0 then (rcv 12 s2.2 a0 (F_X12_byteAt n s2.2 a0 (s2.1 + (1 : Int32)))).bind fun v20 => (rcv 12 s2.2 a0 (F_X12_sign n s2.2 a0 s2.1 v5 v20)).bind fun v21 => j10 (s2.1 + v21.1) v21.2 else (iter (fun (s22 : Int32 × Int32) => (rcv 12 s2.2 a0 (F_X12_byteAt n s2.2 a0 (s2.1 + s22.1))).bind fun v23 => (F_X12_isDigit n s2.2 v23).bind fun v24 => if v24 = 0 then some (.inr (s22.1, s22.2)) else jn (fun (u26 : Int32) => some (.inl ((s22.1 + (1 : Int32)), u26))) fun j27 => if (4 : Int32) ≤ s22.1 then j27 s22.2 else (rcv 12 s2.2 a0 (F_X12_byteAt n s2.2 a0 (s2.1 + s22.1))).bind fun v29 => lets ((((10 : Int32) * s22.2) + v29) - (48 : Int32)) fun (w30 : Int32) => j27 w30) n ((0 : Int32), (0 : Int32))).bind fun (e22 : Int32 × Int32) => jn (fun (u31 : Int32) => (rcv 12 s2.2 a0 (F_X12_token n s2.2 a0 u31 s2.1 e22.2 (0 : Int64))).bind fun M33 => j10 (s2.1 + e22.1) M33) fun j34 => if e22.1 ≤ (4 : Int32) then j34 (2 : Int32) else j34 (3 : Int32) else (iter (fun (s36 : Int32 × Int64) => (rcv 12 s2.2 a0 (F_X12_byteAt n s2.2 a0 (s2.1 + s36.1))).bind fun v37 => (F_X12_isLetter n s2.2 v37).bind fun v38 => if v38 = 0 then some (.inr (s36.1, s36.2)) else jn (fun (u40 : Int64) => some (.inl ((s36.1 + (1 : Int32)), u40))) fun j41 => if (8 : Int32) ≤ s36.1 then j41 s36.2 else (rcv 12 s2.2 a0 (F_X12_byteAt n s2.2 a0 (s2.1 + s36.1))).bind fun v43 => (F_X12_appends n s2.2 s36.2 v43).bind fun v44 => j41 v44) n ((0 : Int32), (0 : Int64))).bind fun (e36 : Int32 × Int64) => jn (fun (u45 : Int32) => jn (fun (u46 : Int32) => (rcv 12 s2.2 a0 (F_X12_token n s2.2 a0 u46 s2.1 (0 : Int32) e36.2)).bind fun M48 => j10 (s2.1 + e36.1) M48) fun j49 => if (7 : Int32) < e36.1 then j49 u45 else (iter (fun (s51 : Int32 × Int32) => if (20 : Int32) ≤ s51.2 then some (.inr s51.1) else (gR 12 9 s2.2 a0).bind fun v53 => (rdL s2.2 v53 s51.2).bind fun v54 => jn (fun (u55 : Int32) => some (.inl (u55, (s51.2 + (1 : Int32))))) fun j56 => if (lg_cmp v54 e36.2) = 0 then j56 ((20 : Int32) + s51.2) else j56 s51.1) n (u45, (0 : Int32))).bind fun (e51 : Int32) => j49 e51) fun j58 => if e36.1 ≤ (8 : Int32) then j58 (1 : Int32) else j58 (3 : Int32) else (gI 12 4 s2.2 a0).bind fun v60 => (rcv 12 s2.2 a0 (F_X12_token n s2.2 a0 (0 : Int32) v60 (0 : Int32) (0 : Int64))).bind fun M62 => some (.inr (.inr M62))) n ((0 : Int32), M1)).bind fun (z2 : (AM) ⊕ AM) => Sum.elim (fun (e2 : AM) => some e2) (fun (v : AM) => some v) z2
set_option maxRecDepth 100000 in
set_option maxHeartbeats 4000000 in
theorem C_X12_cut {n : Nat} {M : AM} {a0 : Nat} {o : AM} (h : F_X12_cut n M a0 = some o) : Cn yX12_cut cX12_cut 8 none 2 [.ref a0] M none o := by
  unfold F_X12_cut at h
  refine Cn.of rfl (Nat.le_of_ble_eq_true rfl) ?_
  show G yX12_cut cX12_cut 8 none 2 0 [(0, .ref a0)] [] M none o
  refine G.aload_n dX12_cut_0 rfl rfl ?_
  refine G.iconst (0 : Int32) dX12_cut_1 ki_0 ?_
  refine G.putI dX12_cut_2 fkX12_238 nf12_10 ft12_10 h (fun M1 h => ?_)
  refine G.iconst (0 : Int32) dX12_cut_5 ki_0 ?_
  refine G.istore_n (lv' := [(1, .int (0 : Int32)), (0, .ref a0)]) dX12_cut_6 rfl (Nat.le_of_ble_eq_true rfl) rfl ?_
  refine G.sub (lv' := [(0, .ref a0), (1, .int (0 : Int32))]) [1, 0] rfl ?_
  refine loopE (fun (s2 : Int32 × AM) => G yX12_cut cX12_cut 8 none 2 7 [(0, .ref a0), (1, .int s2.1)] [] s2.2 none o) (fun (z2 : (AM) ⊕ AM) => Sum.elim (fun (e2 : AM) => G yX12_cut cX12_cut 8 none 2 294 [] [] e2 none o) (fun (v : AM) => some v = some o) z2) h ?_ ?_
  · intro z2 h
    rcases z2 with e2 | v
    · have h := sum_inl h
      show G yX12_cut cX12_cut 8 none 2 294 [] [] e2 none o
      exact G.vretW dX12_cut_294 rfl h
    · have h := sum_inr h
      exact h
  · intro s2 x2 h K2
    show G yX12_cut cX12_cut 8 none 2 7 [(0, .ref a0), (1, .int s2.1)] [] s2.2 none o
    refine G.aload_n dX12_cut_7 rfl rfl ?_
    refine G.getI dX12_cut_8 fkX12_238 fr12_10 h (fun v3 h => ?_)
    refine G.sipush (400 : Int32) dX12_cut_11 ks_400 ?_
    refine G.icmp_gt 294 dX12_cut_14 (by decide) h (fun c4 h => ?_) (fun c4 h => ?_)
    · refine G.sub (lv' := []) [] rfl ?_
      have h := leafR' h K2
      exact h
    · refine G.aload_n dX12_cut_17 rfl rfl ?_
      refine G.iload_n dX12_cut_18 rfl rfl ?_
      refine G.callVi (ci := 12) [.int s2.1] [] dX12_cut_19 lkX12_241 okX12_byteAt rfl (fun v hv => C_X12_byteAt hv) (Nat.le_of_ble_eq_true rfl) rfl rfl (Nat.le_of_ble_eq_true rfl) h (fun v5 h => ?_)
      refine G.istore_n (lv' := [(2, .int v5), (0, .ref a0), (1, .int s2.1)]) dX12_cut_22 rfl (Nat.le_of_ble_eq_true rfl) rfl ?_
      refine G.iload_n dX12_cut_23 rfl rfl ?_
      refine G.aload_n dX12_cut_24 rfl rfl ?_
      refine G.getI dX12_cut_25 fkX12_229 fr12_4 h (fun v6 h => ?_)
      refine G.icmp_lt 43 dX12_cut_28 (by decide) h (fun c7 h => ?_) (fun c7 h => ?_)
      · refine G.iload_n dX12_cut_43 rfl rfl ?_
        refine G.bipush (9 : Int32) dX12_cut_44 kb_9 ?_
        refine jn_elim (fun j10 => ∀ (u8 : Int32) (M9 : AM), j10 u8 M9 = some x2 → G yX12_cut cX12_cut 8 none 2 291 [(0, .ref a0), (1, .int u8)] [] M9 none o) h ?_ ?_
        · intro u8 M9 h
          refine G.goto 7 dX12_cut_291 (by decide) ?_
          refine G.sub (lv' := [(0, .ref a0), (1, .int u8)]) [0, 1] rfl ?_
          have h := leafL' h K2
          exact h
        · intro j10 Jj10 h
          refine jn_elim (fun j11 => j11 = some x2 → G yX12_cut cX12_cut 8 none 2 67 [(0, .ref a0), (1, .int s2.1)] [] s2.2 none o) h ?_ ?_
          · intro h
            refine G.iinc s2.1 (w := (s2.1 + (1 : Int32))) (lv' := [(1, .int (s2.1 + (1 : Int32))), (0, .ref a0)]) dX12_cut_67 rfl rfl (Nat.le_of_ble_eq_true rfl) rfl ?_
            refine G.goto 291 dX12_cut_70 (by decide) ?_
            refine G.sub (lv' := [(0, .ref a0), (1, .int (s2.1 + (1 : Int32)))]) [1, 0] rfl ?_
            exact Jj10 _ _ h
          · intro j11 Jj11 h
            refine G.icmp_eq 67 dX12_cut_46 (by decide) h (fun c12 h => ?_) (fun c12 h => ?_)
            · refine G.sub (lv' := [(0, .ref a0), (1, .int s2.1)]) [1, 2] rfl ?_
              exact Jj11  h
            · refine G.iload_n dX12_cut_49 rfl rfl ?_
              refine G.bipush (10 : Int32) dX12_cut_50 kb_10 ?_
              refine G.icmp_eq 67 dX12_cut_52 (by decide) h (fun c13 h => ?_) (fun c13 h => ?_)
              · refine G.sub (lv' := [(0, .ref a0), (1, .int s2.1)]) [1, 2] rfl ?_
                exact Jj11  h
              · refine G.iload_n dX12_cut_55 rfl rfl ?_
                refine G.bipush (13 : Int32) dX12_cut_56 kb_13 ?_
                refine G.icmp_eq 67 dX12_cut_58 (by decide) h (fun c14 h => ?_) (fun c14 h => ?_)
                · refine G.sub (lv' := [(0, .ref a0), (1, .int s2.1)]) [1, 2] rfl ?_
                  exact Jj11  h
                · refine G.iload_n dX12_cut_61 rfl rfl ?_
                  refine G.bipush (32 : Int32) dX12_cut_62 kb_32 ?_
                  refine G.icmp_ne 73 dX12_cut_64 (by decide) h (fun c15 h => ?_) (fun c15 h => ?_)
                  · refine G.sub (lv' := [(0, .ref a0), (1, .int s2.1)]) [1, 2] rfl ?_
                    exact Jj11  h
                  · refine G.iload_n dX12_cut_73 rfl rfl ?_
                    refine G.callSi [.int v5] [] dX12_cut_74 lkX12_249 okX12_isLetter (fun v hv => C_X12_isLetter hv) (Nat.le_of_ble_eq_true rfl) rfl rfl (Nat.le_of_ble_eq_true rfl) h (fun v16 h => ?_)
                    refine G.if_eq 196 dX12_cut_77 (by decide) h (fun c17 h => ?_) (fun c17 h => ?_)
                    · refine G.iload_n dX12_cut_196 rfl rfl ?_
                      refine G.callSi [.int v5] [] dX12_cut_197 lkX12_253 okX12_isDigit (fun v hv => C_X12_isDigit hv) (Nat.le_of_ble_eq_true rfl) rfl rfl (Nat.le_of_ble_eq_true rfl) h (fun v18 h => ?_)
                      refine G.if_eq 275 dX12_cut_200 (by decide) h (fun c19 h => ?_) (fun c19 h => ?_)
                      · refine G.iload_n dX12_cut_275 rfl rfl ?_
                        refine G.aload_n dX12_cut_276 rfl rfl ?_
                        refine G.iload_n dX12_cut_277 rfl rfl ?_
                        refine G.iload_n dX12_cut_278 rfl rfl ?_
                        refine G.aload_n dX12_cut_279 rfl rfl ?_
                        refine G.iload_n dX12_cut_280 rfl rfl ?_
                        refine G.iconst (1 : Int32) dX12_cut_281 ki_1 ?_
                        refine G.iadd dX12_cut_282 ?_
                        refine G.callVi (ci := 12) [.int (s2.1 + (1 : Int32))] [.int v5, .int s2.1, .ref a0, .int s2.1] dX12_cut_283 lkX12_241 okX12_byteAt rfl (fun v hv => C_X12_byteAt hv) (Nat.le_of_ble_eq_true rfl) rfl rfl (Nat.le_of_ble_eq_true rfl) h (fun v20 h => ?_)
                        refine G.callVi (ci := 12) [.int s2.1, .int v5, .int v20] [.int s2.1] dX12_cut_286 lkX12_256 okX12_sign rfl (fun v hv => C_X12_sign hv) (Nat.le_of_ble_eq_true rfl) rfl rfl (Nat.le_of_ble_eq_true rfl) h (fun v21 h => ?_)
                        refine G.iadd dX12_cut_289 ?_
                        refine G.istore_n (lv' := [(1, .int (s2.1 + v21.1)), (2, .int v5), (0, .ref a0)]) dX12_cut_290 rfl (Nat.le_of_ble_eq_true rfl) rfl ?_
                        refine G.sub (lv' := [(0, .ref a0), (1, .int (s2.1 + v21.1))]) [2, 0] rfl ?_
                        exact Jj10 _ _ h
                      · refine G.iconst (0 : Int32) dX12_cut_203 ki_0 ?_
                        refine G.istore_n (lv' := [(3, .int (0 : Int32)), (2, .int v5), (0, .ref a0), (1, .int s2.1)]) dX12_cut_204 rfl (Nat.le_of_ble_eq_true rfl) rfl ?_
                        refine G.iconst (0 : Int32) dX12_cut_205 ki_0 ?_
                        refine G.istore (lv' := [(4, .int (0 : Int32)), (3, .int (0 : Int32)), (2, .int v5), (0, .ref a0), (1, .int s2.1)]) dX12_cut_206 (Nat.le_of_ble_eq_true rfl) rfl ?_
                        refine G.sub (lv' := [(0, .ref a0), (1, .int s2.1), (3, .int (0 : Int32)), (4, .int (0 : Int32))]) [3, 4, 1, 0] rfl ?_
                        refine loopE (fun (s22 : Int32 × Int32) => G yX12_cut cX12_cut 8 none 2 208 [(0, .ref a0), (1, .int s2.1), (3, .int s22.1), (4, .int s22.2)] [] s2.2 none o) (fun (e22 : Int32 × Int32) => G yX12_cut cX12_cut 8 none 2 250 [(0, .ref a0), (1, .int s2.1), (3, .int e22.1), (4, .int e22.2)] [] s2.2 none o) h ?_ ?_
                        · intro e22 h
                          show G yX12_cut cX12_cut 8 none 2 250 [(0, .ref a0), (1, .int s2.1), (3, .int e22.1), (4, .int e22.2)] [] s2.2 none o
                          refine G.aload_n dX12_cut_250 rfl rfl ?_
                          refine G.iload_n dX12_cut_251 rfl rfl ?_
                          refine G.iconst (4 : Int32) dX12_cut_252 ki_4 ?_
                          refine jn_elim (fun j34 => ∀ (u31 : Int32), j34 u31 = some x2 → G yX12_cut cX12_cut 8 none 2 261 [(0, .ref a0), (1, .int s2.1), (3, .int e22.1), (4, .int e22.2)] [.int u31, .ref a0] s2.2 none o) h ?_ ?_
                          · intro u31 h
                            refine G.iload_n dX12_cut_261 rfl rfl ?_
                            refine G.iload dX12_cut_262 rfl ?_
                            refine G.lconst (0 : Int64) dX12_cut_264 rfl ?_
                            refine G.callVv (ci := 12) [.int u31, .int s2.1, .int e22.2, .long (0 : Int64)] [] dX12_cut_265 lkX12_245 okX12_token rfl (fun v hv => C_X12_token hv) (Nat.le_of_ble_eq_true rfl) rfl rfl (Nat.le_of_ble_eq_true rfl) h (fun M33 h => ?_)
                            refine G.iload_n dX12_cut_268 rfl rfl ?_
                            refine G.iload_n dX12_cut_269 rfl rfl ?_
                            refine G.iadd dX12_cut_270 ?_
                            refine G.istore_n (lv' := [(1, .int (s2.1 + e22.1)), (0, .ref a0), (3, .int e22.1), (4, .int e22.2)]) dX12_cut_271 rfl (Nat.le_of_ble_eq_true rfl) rfl ?_
                            refine G.goto 291 dX12_cut_272 (by decide) ?_
                            refine G.sub (lv' := [(0, .ref a0), (1, .int (s2.1 + e22.1))]) [1, 0] rfl ?_
                            exact Jj10 _ _ h
                          · intro j34 Jj34 h
                            refine G.icmp_le 260 dX12_cut_253 (by decide) h (fun c35 h => ?_) (fun c35 h => ?_)
                            · refine G.iconst (2 : Int32) dX12_cut_260 ki_2 ?_
                              refine G.sub (lv' := [(0, .ref a0), (1, .int s2.1), (3, .int e22.1), (4, .int e22.2)]) [0, 1, 2, 3] rfl ?_
                              exact Jj34 _ h
                            · refine G.iconst (3 : Int32) dX12_cut_256 ki_3 ?_
                              refine G.goto 261 dX12_cut_257 (by decide) ?_
                              refine G.sub (lv' := [(0, .ref a0), (1, .int s2.1), (3, .int e22.1), (4, .int e22.2)]) [0, 1, 2, 3] rfl ?_
                              exact Jj34 _ h
                        · intro s22 x22 h K22
                          show G yX12_cut cX12_cut 8 none 2 208 [(0, .ref a0), (1, .int s2.1), (3, .int s22.1), (4, .int s22.2)] [] s2.2 none o
                          refine G.aload_n dX12_cut_208 rfl rfl ?_
                          refine G.iload_n dX12_cut_209 rfl rfl ?_
                          refine G.iload_n dX12_cut_210 rfl rfl ?_
                          refine G.iadd dX12_cut_211 ?_
                          refine G.callVi (ci := 12) [.int (s2.1 + s22.1)] [] dX12_cut_212 lkX12_241 okX12_byteAt rfl (fun v hv => C_X12_byteAt hv) (Nat.le_of_ble_eq_true rfl) rfl rfl (Nat.le_of_ble_eq_true rfl) h (fun v23 h => ?_)
                          refine G.callSi [.int v23] [] dX12_cut_215 lkX12_253 okX12_isDigit (fun v hv => C_X12_isDigit hv) (Nat.le_of_ble_eq_true rfl) rfl rfl (Nat.le_of_ble_eq_true rfl) h (fun v24 h => ?_)
                          refine G.if_eq 250 dX12_cut_218 (by decide) h (fun c25 h => ?_) (fun c25 h => ?_)
                          · refine G.sub (lv' := [(0, .ref a0), (1, .int s2.1), (3, .int s22.1), (4, .int s22.2)]) [0, 1, 2, 3] rfl ?_
                            have h := leafR' h K22
                            exact h
                          · refine G.iload_n dX12_cut_221 rfl rfl ?_
                            refine G.iconst (4 : Int32) dX12_cut_222 ki_4 ?_
                            refine jn_elim (fun j27 => ∀ (u26 : Int32), j27 u26 = some x22 → G yX12_cut cX12_cut 8 none 2 244 [(0, .ref a0), (1, .int s2.1), (3, .int s22.1), (4, .int u26)] [] s2.2 none o) h ?_ ?_
                            · intro u26 h
                              refine G.iinc s22.1 (w := (s22.1 + (1 : Int32))) (lv' := [(3, .int (s22.1 + (1 : Int32))), (0, .ref a0), (1, .int s2.1), (4, .int u26)]) dX12_cut_244 rfl rfl (Nat.le_of_ble_eq_true rfl) rfl ?_
                              refine G.goto 208 dX12_cut_247 (by decide) ?_
                              refine G.sub (lv' := [(0, .ref a0), (1, .int s2.1), (3, .int (s22.1 + (1 : Int32))), (4, .int u26)]) [1, 2, 0, 3] rfl ?_
                              have h := leafL' h K22
                              exact h
                            · intro j27 Jj27 h
                              refine G.icmp_ge 244 dX12_cut_223 (by decide) h (fun c28 h => ?_) (fun c28 h => ?_)
                              · refine G.sub (lv' := [(0, .ref a0), (1, .int s2.1), (3, .int s22.1), (4, .int s22.2)]) [0, 1, 2, 3] rfl ?_
                                exact Jj27 _ h
                              · refine G.bipush (10 : Int32) dX12_cut_226 kb_10 ?_
                                refine G.iload dX12_cut_228 rfl ?_
                                refine G.imul dX12_cut_230 ?_
                                refine G.aload_n dX12_cut_231 rfl rfl ?_
                                refine G.iload_n dX12_cut_232 rfl rfl ?_
                                refine G.iload_n dX12_cut_233 rfl rfl ?_
                                refine G.iadd dX12_cut_234 ?_
                                refine G.callVi (ci := 12) [.int (s2.1 + s22.1)] [.int ((10 : Int32) * s22.2)] dX12_cut_235 lkX12_241 okX12_byteAt rfl (fun v hv => C_X12_byteAt hv) (Nat.le_of_ble_eq_true rfl) rfl rfl (Nat.le_of_ble_eq_true rfl) h (fun v29 h => ?_)
                                refine G.iadd dX12_cut_238 ?_
                                refine G.bipush (48 : Int32) dX12_cut_239 kb_48 ?_
                                refine G.isub dX12_cut_241 ?_
                                refine lets_elim h (fun w30 ew30 h => ?_)
                                rw [← ew30]
                                refine G.istore (lv' := [(4, .int w30), (0, .ref a0), (1, .int s2.1), (3, .int s22.1)]) dX12_cut_242 (Nat.le_of_ble_eq_true rfl) rfl ?_
                                refine G.sub (lv' := [(0, .ref a0), (1, .int s2.1), (3, .int s22.1), (4, .int w30)]) [1, 2, 3, 0] rfl ?_
                                exact Jj27 _ h
                    · refine G.iconst (0 : Int32) dX12_cut_80 ki_0 ?_
                      refine G.istore_n (lv' := [(3, .int (0 : Int32)), (2, .int v5), (0, .ref a0), (1, .int s2.1)]) dX12_cut_81 rfl (Nat.le_of_ble_eq_true rfl) rfl ?_
                      refine G.lconst (0 : Int64) dX12_cut_82 rfl ?_
                      refine G.lstore (lv' := [(4, .long (0 : Int64)), (3, .int (0 : Int32)), (2, .int v5), (0, .ref a0), (1, .int s2.1)]) dX12_cut_83 (Nat.le_of_ble_eq_true rfl) rfl ?_
                      refine G.sub (lv' := [(0, .ref a0), (1, .int s2.1), (3, .int (0 : Int32)), (4, .long (0 : Int64))]) [3, 4, 1, 0] rfl ?_
                      refine loopE (fun (s36 : Int32 × Int64) => G yX12_cut cX12_cut 8 none 2 85 [(0, .ref a0), (1, .int s2.1), (3, .int s36.1), (4, .long s36.2)] [] s2.2 none o) (fun (e36 : Int32 × Int64) => G yX12_cut cX12_cut 8 none 2 124 [(0, .ref a0), (1, .int s2.1), (3, .int e36.1), (4, .long e36.2)] [] s2.2 none o) h ?_ ?_
                      · intro e36 h
                        show G yX12_cut cX12_cut 8 none 2 124 [(0, .ref a0), (1, .int s2.1), (3, .int e36.1), (4, .long e36.2)] [] s2.2 none o
                        refine G.iload_n dX12_cut_124 rfl rfl ?_
                        refine G.bipush (8 : Int32) dX12_cut_125 kb_8 ?_
                        refine jn_elim (fun j58 => ∀ (u45 : Int32), j58 u45 = some x2 → G yX12_cut cX12_cut 8 none 2 135 [(0, .ref a0), (1, .int s2.1), (3, .int e36.1), (4, .long e36.2)] [.int u45] s2.2 none o) h ?_ ?_
                        · intro u45 h
                          refine G.istore (lv' := [(6, .int u45), (0, .ref a0), (1, .int s2.1), (3, .int e36.1), (4, .long e36.2)]) dX12_cut_135 (Nat.le_of_ble_eq_true rfl) rfl ?_
                          refine G.iload_n dX12_cut_137 rfl rfl ?_
                          refine G.bipush (7 : Int32) dX12_cut_138 kb_7 ?_
                          refine jn_elim (fun j49 => ∀ (u46 : Int32), j49 u46 = some x2 → G yX12_cut cX12_cut 8 none 2 179 [(0, .ref a0), (1, .int s2.1), (3, .int e36.1), (4, .long e36.2), (6, .int u46)] [] s2.2 none o) h ?_ ?_
                          · intro u46 h
                            refine G.aload_n dX12_cut_179 rfl rfl ?_
                            refine G.iload dX12_cut_180 rfl ?_
                            refine G.iload_n dX12_cut_182 rfl rfl ?_
                            refine G.iconst (0 : Int32) dX12_cut_183 ki_0 ?_
                            refine G.lload dX12_cut_184 rfl ?_
                            refine G.callVv (ci := 12) [.int u46, .int s2.1, .int (0 : Int32), .long e36.2] [] dX12_cut_186 lkX12_245 okX12_token rfl (fun v hv => C_X12_token hv) (Nat.le_of_ble_eq_true rfl) rfl rfl (Nat.le_of_ble_eq_true rfl) h (fun M48 h => ?_)
                            refine G.iload_n dX12_cut_189 rfl rfl ?_
                            refine G.iload_n dX12_cut_190 rfl rfl ?_
                            refine G.iadd dX12_cut_191 ?_
                            refine G.istore_n (lv' := [(1, .int (s2.1 + e36.1)), (0, .ref a0), (3, .int e36.1), (4, .long e36.2), (6, .int u46)]) dX12_cut_192 rfl (Nat.le_of_ble_eq_true rfl) rfl ?_
                            refine G.goto 291 dX12_cut_193 (by decide) ?_
                            refine G.sub (lv' := [(0, .ref a0), (1, .int (s2.1 + e36.1))]) [1, 0] rfl ?_
                            exact Jj10 _ _ h
                          · intro j49 Jj49 h
                            refine G.icmp_gt 179 dX12_cut_140 (by decide) h (fun c50 h => ?_) (fun c50 h => ?_)
                            · refine G.sub (lv' := [(0, .ref a0), (1, .int s2.1), (3, .int e36.1), (4, .long e36.2), (6, .int u45)]) [1, 2, 3, 4, 0] rfl ?_
                              exact Jj49 _ h
                            · refine G.iconst (0 : Int32) dX12_cut_143 ki_0 ?_
                              refine G.istore (lv' := [(7, .int (0 : Int32)), (6, .int u45), (0, .ref a0), (1, .int s2.1), (3, .int e36.1), (4, .long e36.2)]) dX12_cut_144 (Nat.le_of_ble_eq_true rfl) rfl ?_
                              refine G.sub (lv' := [(0, .ref a0), (1, .int s2.1), (3, .int e36.1), (4, .long e36.2), (6, .int u45), (7, .int (0 : Int32))]) [2, 3, 4, 5, 1, 0] rfl ?_
                              refine loopE (fun (s51 : Int32 × Int32) => G yX12_cut cX12_cut 8 none 2 146 [(0, .ref a0), (1, .int s2.1), (3, .int e36.1), (4, .long e36.2), (6, .int s51.1), (7, .int s51.2)] [] s2.2 none o) (fun (e51 : Int32) => G yX12_cut cX12_cut 8 none 2 179 [(0, .ref a0), (1, .int s2.1), (3, .int e36.1), (4, .long e36.2), (6, .int e51)] [] s2.2 none o) h ?_ ?_
                              · intro e51 h
                                show G yX12_cut cX12_cut 8 none 2 179 [(0, .ref a0), (1, .int s2.1), (3, .int e36.1), (4, .long e36.2), (6, .int e51)] [] s2.2 none o
                                refine G.sub (lv' := [(0, .ref a0), (1, .int s2.1), (3, .int e36.1), (4, .long e36.2), (6, .int e51)]) [0, 1, 2, 3, 4] rfl ?_
                                exact Jj49 _ h
                              · intro s51 x51 h K51
                                show G yX12_cut cX12_cut 8 none 2 146 [(0, .ref a0), (1, .int s2.1), (3, .int e36.1), (4, .long e36.2), (6, .int s51.1), (7, .int s51.2)] [] s2.2 none o
                                refine G.iload dX12_cut_146 rfl ?_
                                refine G.bipush (20 : Int32) dX12_cut_148 kb_20 ?_
                                refine G.icmp_ge 179 dX12_cut_150 (by decide) h (fun c52 h => ?_) (fun c52 h => ?_)
                                · refine G.sub (lv' := [(0, .ref a0), (1, .int s2.1), (3, .int e36.1), (4, .long e36.2), (6, .int s51.1)]) [0, 1, 2, 3, 4] rfl ?_
                                  have h := leafR' h K51
                                  exact h
                                · refine G.aload_n dX12_cut_153 rfl rfl ?_
                                  refine G.getR dX12_cut_154 fkX12_34 fr12_9 h (fun v53 h => ?_)
                                  refine G.iload dX12_cut_157 rfl ?_
                                  refine G.lald dX12_cut_159 h (fun v54 h => ?_)
                                  refine G.lload dX12_cut_160 rfl ?_
                                  refine G.lcmp dX12_cut_162 ?_
                                  refine jn_elim (fun j56 => ∀ (u55 : Int32), j56 u55 = some x51 → G yX12_cut cX12_cut 8 none 2 173 [(0, .ref a0), (1, .int s2.1), (3, .int e36.1), (4, .long e36.2), (6, .int u55), (7, .int s51.2)] [] s2.2 none o) h ?_ ?_
                                  · intro u55 h
                                    refine G.iinc s51.2 (w := (s51.2 + (1 : Int32))) (lv' := [(7, .int (s51.2 + (1 : Int32))), (0, .ref a0), (1, .int s2.1), (3, .int e36.1), (4, .long e36.2), (6, .int u55)]) dX12_cut_173 rfl rfl (Nat.le_of_ble_eq_true rfl) rfl ?_
                                    refine G.goto 146 dX12_cut_176 (by decide) ?_
                                    refine G.sub (lv' := [(0, .ref a0), (1, .int s2.1), (3, .int e36.1), (4, .long e36.2), (6, .int u55), (7, .int (s51.2 + (1 : Int32)))]) [1, 2, 3, 4, 5, 0] rfl ?_
                                    have h := leafL' h K51
                                    exact h
                                  · intro j56 Jj56 h
                                    refine G.if_ne 173 dX12_cut_163 (by decide) h (fun c57 h => ?_) (fun c57 h => ?_)
                                    · refine G.bipush (20 : Int32) dX12_cut_166 kb_20 ?_
                                      refine G.iload dX12_cut_168 rfl ?_
                                      refine G.iadd dX12_cut_170 ?_
                                      refine G.istore (lv' := [(6, .int ((20 : Int32) + s51.2)), (0, .ref a0), (1, .int s2.1), (3, .int e36.1), (4, .long e36.2), (7, .int s51.2)]) dX12_cut_171 (Nat.le_of_ble_eq_true rfl) rfl ?_
                                      refine G.sub (lv' := [(0, .ref a0), (1, .int s2.1), (3, .int e36.1), (4, .long e36.2), (6, .int ((20 : Int32) + s51.2)), (7, .int s51.2)]) [1, 2, 3, 4, 0, 5] rfl ?_
                                      exact Jj56 _ h
                                    · refine G.sub (lv' := [(0, .ref a0), (1, .int s2.1), (3, .int e36.1), (4, .long e36.2), (6, .int s51.1), (7, .int s51.2)]) [0, 1, 2, 3, 4, 5] rfl ?_
                                      exact Jj56 _ h
                        · intro j58 Jj58 h
                          refine G.icmp_le 134 dX12_cut_127 (by decide) h (fun c59 h => ?_) (fun c59 h => ?_)
                          · refine G.iconst (1 : Int32) dX12_cut_134 ki_1 ?_
                            refine G.sub (lv' := [(0, .ref a0), (1, .int s2.1), (3, .int e36.1), (4, .long e36.2)]) [0, 1, 2, 3] rfl ?_
                            exact Jj58 _ h
                          · refine G.iconst (3 : Int32) dX12_cut_130 ki_3 ?_
                            refine G.goto 135 dX12_cut_131 (by decide) ?_
                            refine G.sub (lv' := [(0, .ref a0), (1, .int s2.1), (3, .int e36.1), (4, .long e36.2)]) [0, 1, 2, 3] rfl ?_
                            exact Jj58 _ h
                      · intro s36 x36 h K36
                        show G yX12_cut cX12_cut 8 none 2 85 [(0, .ref a0), (1, .int s2.1), (3, .int s36.1), (4, .long s36.2)] [] s2.2 none o
                        refine G.aload_n dX12_cut_85 rfl rfl ?_
                        refine G.iload_n dX12_cut_86 rfl rfl ?_
                        refine G.iload_n dX12_cut_87 rfl rfl ?_
                        refine G.iadd dX12_cut_88 ?_
                        refine G.callVi (ci := 12) [.int (s2.1 + s36.1)] [] dX12_cut_89 lkX12_241 okX12_byteAt rfl (fun v hv => C_X12_byteAt hv) (Nat.le_of_ble_eq_true rfl) rfl rfl (Nat.le_of_ble_eq_true rfl) h (fun v37 h => ?_)
                        refine G.callSi [.int v37] [] dX12_cut_92 lkX12_249 okX12_isLetter (fun v hv => C_X12_isLetter hv) (Nat.le_of_ble_eq_true rfl) rfl rfl (Nat.le_of_ble_eq_true rfl) h (fun v38 h => ?_)
                        refine G.if_eq 124 dX12_cut_95 (by decide) h (fun c39 h => ?_) (fun c39 h => ?_)
                        · refine G.sub (lv' := [(0, .ref a0), (1, .int s2.1), (3, .int s36.1), (4, .long s36.2)]) [0, 1, 2, 3] rfl ?_
                          have h := leafR' h K36
                          exact h
                        · refine G.iload_n dX12_cut_98 rfl rfl ?_
                          refine G.bipush (8 : Int32) dX12_cut_99 kb_8 ?_
                          refine jn_elim (fun j41 => ∀ (u40 : Int64), j41 u40 = some x36 → G yX12_cut cX12_cut 8 none 2 118 [(0, .ref a0), (1, .int s2.1), (3, .int s36.1), (4, .long u40)] [] s2.2 none o) h ?_ ?_
                          · intro u40 h
                            refine G.iinc s36.1 (w := (s36.1 + (1 : Int32))) (lv' := [(3, .int (s36.1 + (1 : Int32))), (0, .ref a0), (1, .int s2.1), (4, .long u40)]) dX12_cut_118 rfl rfl (Nat.le_of_ble_eq_true rfl) rfl ?_
                            refine G.goto 85 dX12_cut_121 (by decide) ?_
                            refine G.sub (lv' := [(0, .ref a0), (1, .int s2.1), (3, .int (s36.1 + (1 : Int32))), (4, .long u40)]) [1, 2, 0, 3] rfl ?_
                            have h := leafL' h K36
                            exact h
                          · intro j41 Jj41 h
                            refine G.icmp_ge 118 dX12_cut_101 (by decide) h (fun c42 h => ?_) (fun c42 h => ?_)
                            · refine G.sub (lv' := [(0, .ref a0), (1, .int s2.1), (3, .int s36.1), (4, .long s36.2)]) [0, 1, 2, 3] rfl ?_
                              exact Jj41 _ h
                            · refine G.lload dX12_cut_104 rfl ?_
                              refine G.aload_n dX12_cut_106 rfl rfl ?_
                              refine G.iload_n dX12_cut_107 rfl rfl ?_
                              refine G.iload_n dX12_cut_108 rfl rfl ?_
                              refine G.iadd dX12_cut_109 ?_
                              refine G.callVi (ci := 12) [.int (s2.1 + s36.1)] [.long s36.2] dX12_cut_110 lkX12_241 okX12_byteAt rfl (fun v hv => C_X12_byteAt hv) (Nat.le_of_ble_eq_true rfl) rfl rfl (Nat.le_of_ble_eq_true rfl) h (fun v43 h => ?_)
                              refine G.callSl [.long s36.2, .int v43] [] dX12_cut_113 lkX12_234 okX12_appends (fun v hv => C_X12_appends hv) (Nat.le_of_ble_eq_true rfl) rfl rfl (Nat.le_of_ble_eq_true rfl) h (fun v44 h => ?_)
                              refine G.lstore (lv' := [(4, .long v44), (0, .ref a0), (1, .int s2.1), (3, .int s36.1)]) dX12_cut_116 (Nat.le_of_ble_eq_true rfl) rfl ?_
                              refine G.sub (lv' := [(0, .ref a0), (1, .int s2.1), (3, .int s36.1), (4, .long v44)]) [1, 2, 3, 0] rfl ?_
                              exact Jj41 _ h
      · refine G.aload_n dX12_cut_31 rfl rfl ?_
        refine G.iconst (0 : Int32) dX12_cut_32 ki_0 ?_
        refine G.aload_n dX12_cut_33 rfl rfl ?_
        refine G.getI dX12_cut_34 fkX12_229 fr12_4 h (fun v60 h => ?_)
        refine G.iconst (0 : Int32) dX12_cut_37 ki_0 ?_
        refine G.lconst (0 : Int64) dX12_cut_38 rfl ?_
        refine G.callVv (ci := 12) [.int (0 : Int32), .int v60, .int (0 : Int32), .long (0 : Int64)] [] dX12_cut_39 lkX12_245 okX12_token rfl (fun v hv => C_X12_token hv) (Nat.le_of_ble_eq_true rfl) rfl rfl (Nat.le_of_ble_eq_true rfl) h (fun M62 h => ?_)
        have h := leafR' h K2
        exact G.vretW dX12_cut_42 rfl h
-- OnlyUpwardModel.is(I)Z
set_option maxRecDepth 100000 in
set_option maxHeartbeats 4000000 in
def F_X12_is (n : Nat) (M : AM) (a0 : Nat) (a1 : Int32) : Option Int32 :=
  (gI 12 13 M a0).bind fun v1 => if v1 = 0 then (gR 12 5 M a0).bind fun v3 => (gI 12 11 M a0).bind fun v4 => (rdI M v3 v4).bind fun v5 => if v5 = a1 then some (1 : Int32) else some (0 : Int32) else some (0 : Int32)
set_option maxRecDepth 100000 in
set_option maxHeartbeats 4000000 in
theorem C_X12_is {n : Nat} {M : AM} {a0 : Nat} {a1 : Int32} {o : Int32} (h : F_X12_is n M a0 a1 = some o) : Cn yX12_is cX12_is 2 (some .boolean) 0 [.ref a0, .int a1] M (some (.int o)) M := by
  unfold F_X12_is at h
  refine Cn.of rfl (Nat.le_of_ble_eq_true rfl) ?_
  show G yX12_is cX12_is 2 (some .boolean) 0 0 [(0, .ref a0), (1, .int a1)] [] M (some (.int o)) M
  refine G.aload_n dX12_is_0 rfl rfl ?_
  refine G.getI dX12_is_1 fkX12_260 fr12_13 h (fun v1 h => ?_)
  refine G.if_ne 24 dX12_is_4 (by decide) h (fun c2 h => ?_) (fun c2 h => ?_)
  · refine G.aload_n dX12_is_7 rfl rfl ?_
    refine G.getR dX12_is_8 fkX12_20 fr12_5 h (fun v3 h => ?_)
    refine G.aload_n dX12_is_11 rfl rfl ?_
    refine G.getI dX12_is_12 fkX12_263 fr12_11 h (fun v4 h => ?_)
    refine G.iald dX12_is_15 h (fun v5 h => ?_)
    refine G.iload_n dX12_is_16 rfl rfl ?_
    refine G.icmp_ne 24 dX12_is_17 (by decide) h (fun c6 h => ?_) (fun c6 h => ?_)
    · refine G.iconst (1 : Int32) dX12_is_20 ki_1 ?_
      refine G.goto 25 dX12_is_21 (by decide) ?_
      exact G.iret dX12_is_25 rfl (by decide) h
    · refine G.iconst (0 : Int32) dX12_is_24 ki_0 ?_
      exact G.iret dX12_is_25 rfl (by decide) h
  · refine G.iconst (0 : Int32) dX12_is_24 ki_0 ?_
    exact G.iret dX12_is_25 rfl (by decide) h
-- OnlyUpwardModel.room(I)I
set_option maxRecDepth 100000 in
set_option maxHeartbeats 4000000 in
def F_X12_room (n : Nat) (M : AM) (a0 : Nat) (a1 : Int32) : Option Int32 :=
  if a1 = (0 : Int32) then some (6 : Int32) else if a1 = (1 : Int32) then some (10 : Int32) else if a1 = (2 : Int32) then some (6 : Int32) else if a1 = (3 : Int32) then some (8 : Int32) else if a1 = (4 : Int32) then some (20 : Int32) else if a1 = (5 : Int32) then some (12 : Int32) else if a1 = (6 : Int32) then some (12 : Int32) else if a1 = (7 : Int32) then some (6 : Int32) else some (12 : Int32)
set_option maxRecDepth 100000 in
set_option maxHeartbeats 4000000 in
theorem C_X12_room {n : Nat} {M : AM} {a0 : Nat} {a1 : Int32} {o : Int32} (h : F_X12_room n M a0 a1 = some o) : Cn yX12_room cX12_room 2 (some .int) 0 [.ref a0, .int a1] M (some (.int o)) M := by
  unfold F_X12_room at h
  refine Cn.of rfl (Nat.le_of_ble_eq_true rfl) ?_
  show G yX12_room cX12_room 2 (some .int) 0 0 [(0, .ref a0), (1, .int a1)] [] M (some (.int o)) M
  refine G.iload_n dX12_room_0 rfl rfl ?_
  refine G.sw h (fun c1 h => ?_) (fun c1 h => ?_)
  · refine G.tableIn 48 dX12_room_1 (by rw [c1]; decide) (by rw [c1]; decide) (by rw [c1]; rfl) (by decide) ?_
    refine G.bipush (6 : Int32) dX12_room_48 kb_6 ?_
    exact G.iret dX12_room_50 rfl (rfl) h
  · refine G.sw h (fun c2 h => ?_) (fun c2 h => ?_)
    · refine G.tableIn 51 dX12_room_1 (by rw [c2]; decide) (by rw [c2]; decide) (by rw [c2]; rfl) (by decide) ?_
      refine G.bipush (10 : Int32) dX12_room_51 kb_10 ?_
      exact G.iret dX12_room_53 rfl (rfl) h
    · refine G.sw h (fun c3 h => ?_) (fun c3 h => ?_)
      · refine G.tableIn 48 dX12_room_1 (by rw [c3]; decide) (by rw [c3]; decide) (by rw [c3]; rfl) (by decide) ?_
        refine G.bipush (6 : Int32) dX12_room_48 kb_6 ?_
        exact G.iret dX12_room_50 rfl (rfl) h
      · refine G.sw h (fun c4 h => ?_) (fun c4 h => ?_)
        · refine G.tableIn 54 dX12_room_1 (by rw [c4]; decide) (by rw [c4]; decide) (by rw [c4]; rfl) (by decide) ?_
          refine G.bipush (8 : Int32) dX12_room_54 kb_8 ?_
          exact G.iret dX12_room_56 rfl (rfl) h
        · refine G.sw h (fun c5 h => ?_) (fun c5 h => ?_)
          · refine G.tableIn 57 dX12_room_1 (by rw [c5]; decide) (by rw [c5]; decide) (by rw [c5]; rfl) (by decide) ?_
            refine G.bipush (20 : Int32) dX12_room_57 kb_20 ?_
            exact G.iret dX12_room_59 rfl (rfl) h
          · refine G.sw h (fun c6 h => ?_) (fun c6 h => ?_)
            · refine G.tableIn 60 dX12_room_1 (by rw [c6]; decide) (by rw [c6]; decide) (by rw [c6]; rfl) (by decide) ?_
              refine G.bipush (12 : Int32) dX12_room_60 kb_12 ?_
              exact G.iret dX12_room_62 rfl (rfl) h
            · refine G.sw h (fun c7 h => ?_) (fun c7 h => ?_)
              · refine G.tableIn 60 dX12_room_1 (by rw [c7]; decide) (by rw [c7]; decide) (by rw [c7]; rfl) (by decide) ?_
                refine G.bipush (12 : Int32) dX12_room_60 kb_12 ?_
                exact G.iret dX12_room_62 rfl (rfl) h
              · refine G.sw h (fun c8 h => ?_) (fun c8 h => ?_)
                · refine G.tableIn 48 dX12_room_1 (by rw [c8]; decide) (by rw [c8]; decide) (by rw [c8]; rfl) (by decide) ?_
                  refine G.bipush (6 : Int32) dX12_room_48 kb_6 ?_
                  exact G.iret dX12_room_50 rfl (rfl) h
                · refine G.tableOut 60 dX12_room_1 (sw_out (lo := 0) (hi := 7) (fun z9 g1 g2 ge => ?_)) (by decide) ?_
                  · have hz : z9 = 0 ∨ z9 = 1 ∨ z9 = 2 ∨ z9 = 3 ∨ z9 = 4 ∨ z9 = 5 ∨ z9 = 6 ∨ z9 = 7 := by omega
                    rcases hz with rfl | rfl | rfl | rfl | rfl | rfl | rfl | rfl
                    · exact c1 ge
                    · exact c2 ge
                    · exact c3 ge
                    · exact c4 ge
                    · exact c5 ge
                    · exact c6 ge
                    · exact c7 ge
                    · exact c8 ge
                  · refine G.bipush (12 : Int32) dX12_room_60 kb_12 ?_
                    exact G.iret dX12_room_62 rfl (rfl) h
-- OnlyUpwardModel.fail(I)V
set_option maxRecDepth 100000 in
set_option maxHeartbeats 4000000 in
def F_X12_fail (n : Nat) (M : AM) (a0 : Nat) (a1 : Int32) : Option AM :=
  (gI 12 13 M a0).bind fun v1 => if v1 ≤ 0 then (pI 12 13 M a0 a1).bind fun M3 => (gR 12 6 M3 a0).bind fun v4 => (gI 12 11 M3 a0).bind fun v5 => (rdI M3 v4 v5).bind fun v6 => (pI 12 14 M3 a0 v6).bind fun M7 => some M7 else some M
set_option maxRecDepth 100000 in
set_option maxHeartbeats 4000000 in
theorem C_X12_fail {n : Nat} {M : AM} {a0 : Nat} {a1 : Int32} {o : AM} (h : F_X12_fail n M a0 a1 = some o) : Cn yX12_fail cX12_fail 2 none 0 [.ref a0, .int a1] M none o := by
  unfold F_X12_fail at h
  refine Cn.of rfl (Nat.le_of_ble_eq_true rfl) ?_
  show G yX12_fail cX12_fail 2 none 0 0 [(0, .ref a0), (1, .int a1)] [] M none o
  refine G.aload_n dX12_fail_0 rfl rfl ?_
  refine G.getI dX12_fail_1 fkX12_260 fr12_13 h (fun v1 h => ?_)
  refine G.if_le 8 dX12_fail_4 (by decide) h (fun c2 h => ?_) (fun c2 h => ?_)
  · refine G.aload_n dX12_fail_8 rfl rfl ?_
    refine G.iload_n dX12_fail_9 rfl rfl ?_
    refine G.putI dX12_fail_10 fkX12_260 nf12_13 ft12_13 h (fun M3 h => ?_)
    refine G.aload_n dX12_fail_13 rfl rfl ?_
    refine G.aload_n dX12_fail_14 rfl rfl ?_
    refine G.getR dX12_fail_15 fkX12_24 fr12_6 h (fun v4 h => ?_)
    refine G.aload_n dX12_fail_18 rfl rfl ?_
    refine G.getI dX12_fail_19 fkX12_263 fr12_11 h (fun v5 h => ?_)
    refine G.iald dX12_fail_22 h (fun v6 h => ?_)
    refine G.putI dX12_fail_23 fkX12_266 nf12_14 ft12_14 h (fun M7 h => ?_)
    exact G.vretW dX12_fail_26 rfl h
  · exact G.vretW dX12_fail_7 rfl h
-- OnlyUpwardModel.goesOn()V
set_option maxRecDepth 100000 in
set_option maxHeartbeats 4000000 in
def F_X12_goesOn (n : Nat) (M : AM) (a0 : Nat) : Option AM :=
  (gI 12 11 M a0).bind fun v1 => if v1 = (400 : Int32) then (rcv 12 M a0 (F_X12_fail n M a0 (2 : Int32))).bind fun M4 => some M4 else (gI 12 11 M a0).bind fun v5 => (pI 12 11 M a0 (v5 + (1 : Int32))).bind fun M6 => some M6
set_option maxRecDepth 100000 in
set_option maxHeartbeats 4000000 in
theorem C_X12_goesOn {n : Nat} {M : AM} {a0 : Nat} {o : AM} (h : F_X12_goesOn n M a0 = some o) : Cn yX12_goesOn cX12_goesOn 1 none 1 [.ref a0] M none o := by
  unfold F_X12_goesOn at h
  refine Cn.of rfl (Nat.le_of_ble_eq_true rfl) ?_
  show G yX12_goesOn cX12_goesOn 1 none 1 0 [(0, .ref a0)] [] M none o
  refine G.aload_n dX12_goesOn_0 rfl rfl ?_
  refine G.getI dX12_goesOn_1 fkX12_263 fr12_11 h (fun v1 h => ?_)
  refine G.sipush (400 : Int32) dX12_goesOn_4 ks_400 ?_
  refine G.icmp_ne 18 dX12_goesOn_7 (by decide) h (fun c2 h => ?_) (fun c2 h => ?_)
  · refine G.aload_n dX12_goesOn_10 rfl rfl ?_
    refine G.iconst (2 : Int32) dX12_goesOn_11 ki_2 ?_
    refine G.callVv (ci := 12) [.int (2 : Int32)] [] dX12_goesOn_12 lkX12_275 okX12_fail rfl (fun v hv => C_X12_fail hv) (Nat.le_of_ble_eq_true rfl) rfl rfl (Nat.le_of_ble_eq_true rfl) h (fun M4 h => ?_)
    refine G.goto 28 dX12_goesOn_15 (by decide) ?_
    exact G.vretW dX12_goesOn_28 rfl h
  · refine G.aload_n dX12_goesOn_18 rfl rfl ?_
    refine G.dup dX12_goesOn_19 rfl ?_
    refine G.getI dX12_goesOn_20 fkX12_263 fr12_11 h (fun v5 h => ?_)
    refine G.iconst (1 : Int32) dX12_goesOn_23 ki_1 ?_
    refine G.iadd dX12_goesOn_24 ?_
    refine G.putI dX12_goesOn_25 fkX12_263 nf12_11 ft12_11 h (fun M6 h => ?_)
    exact G.vretW dX12_goesOn_28 rfl h
-- OnlyUpwardModel.next(I)I
set_option maxRecDepth 100000 in
set_option maxHeartbeats 4000000 in
def F_X12_next (n : Nat) (M : AM) (a0 : Nat) (a1 : Int32) : Option (Int32 × AM) :=
  (gR 12 24 M a0).bind fun v1 => (gI 12 19 M a0).bind fun v2 => (rdI M v1 (((8 : Int32) * v2) + a1)).bind fun v3 => (rcv 12 M a0 (F_X12_room n M a0 a1)).bind fun v4 => jn (fun (M5 : AM) => (gI 12 13 M5 a0).bind fun v6 => if v6 ≤ 0 then (rcv 12 M5 a0 (F_X12_goesOn n M5 a0)).bind fun M9 => some (v3, M9) else some ((-1 : Int32), M5)) fun j10 => if v3 = v4 then (rcv 12 M a0 (F_X12_fail n M a0 (2 : Int32))).bind fun M13 => j10 M13 else j10 M
set_option maxRecDepth 100000 in
set_option maxHeartbeats 4000000 in
theorem C_X12_next {n : Nat} {M : AM} {a0 : Nat} {a1 : Int32} {o : (Int32 × AM)} (h : F_X12_next n M a0 a1 = some o) : Cn yX12_next cX12_next 3 (some .int) 2 [.ref a0, .int a1] M (some (.int o.1)) o.2 := by
  unfold F_X12_next at h
  refine Cn.of rfl (Nat.le_of_ble_eq_true rfl) ?_
  show G yX12_next cX12_next 3 (some .int) 2 0 [(0, .ref a0), (1, .int a1)] [] M (some (.int o.1)) o.2
  refine G.aload_n dX12_next_0 rfl rfl ?_
  refine G.getR dX12_next_1 fkX12_49 fr12_24 h (fun v1 h => ?_)
  refine G.bipush (8 : Int32) dX12_next_4 kb_8 ?_
  refine G.aload_n dX12_next_6 rfl rfl ?_
  refine G.getI dX12_next_7 fkX12_293 fr12_19 h (fun v2 h => ?_)
  refine G.imul dX12_next_10 ?_
  refine G.iload_n dX12_next_11 rfl rfl ?_
  refine G.iadd dX12_next_12 ?_
  refine G.iald dX12_next_13 h (fun v3 h => ?_)
  refine G.istore_n (lv' := [(2, .int v3), (0, .ref a0), (1, .int a1)]) dX12_next_14 rfl (Nat.le_of_ble_eq_true rfl) rfl ?_
  refine G.iload_n dX12_next_15 rfl rfl ?_
  refine G.aload_n dX12_next_16 rfl rfl ?_
  refine G.iload_n dX12_next_17 rfl rfl ?_
  refine G.callVi (ci := 12) [.int a1] [.int v3] dX12_next_18 lkX12_311 okX12_room rfl (fun v hv => C_X12_room hv) (Nat.le_of_ble_eq_true rfl) rfl rfl (Nat.le_of_ble_eq_true rfl) h (fun v4 h => ?_)
  refine jn_elim (fun j10 => ∀ (M5 : AM), j10 M5 = some o → G yX12_next cX12_next 3 (some .int) 2 29 [(0, .ref a0), (2, .int v3)] [] M5 (some (.int o.1)) o.2) h ?_ ?_
  · intro M5 h
    refine G.aload_n dX12_next_29 rfl rfl ?_
    refine G.getI dX12_next_30 fkX12_260 fr12_13 h (fun v6 h => ?_)
    refine G.if_le 38 dX12_next_33 (by decide) h (fun c7 h => ?_) (fun c7 h => ?_)
    · refine G.aload_n dX12_next_38 rfl rfl ?_
      refine G.callVv (ci := 12) [] [] dX12_next_39 lkX12_281 okX12_goesOn rfl (fun v hv => C_X12_goesOn hv) (Nat.le_of_ble_eq_true rfl) rfl rfl (Nat.le_of_ble_eq_true rfl) h (fun M9 h => ?_)
      refine G.iload_n dX12_next_42 rfl rfl ?_
      exact G.iretW dX12_next_43 rfl (rfl) h
    · refine G.iconst (-1 : Int32) dX12_next_36 ki_m1 ?_
      exact G.iretW dX12_next_37 rfl (rfl) h
  · intro j10 Jj10 h
    refine G.icmp_ne 29 dX12_next_21 (by decide) h (fun c11 h => ?_) (fun c11 h => ?_)
    · refine G.aload_n dX12_next_24 rfl rfl ?_
      refine G.iconst (2 : Int32) dX12_next_25 ki_2 ?_
      refine G.callVv (ci := 12) [.int (2 : Int32)] [] dX12_next_26 lkX12_275 okX12_fail rfl (fun v hv => C_X12_fail hv) (Nat.le_of_ble_eq_true rfl) rfl rfl (Nat.le_of_ble_eq_true rfl) h (fun M13 h => ?_)
      refine G.sub (lv' := [(0, .ref a0), (2, .int v3)]) [1, 0] rfl ?_
      exact Jj10 _ h
    · refine G.sub (lv' := [(0, .ref a0), (2, .int v3)]) [1, 0] rfl ?_
      exact Jj10 _ h
-- OnlyUpwardModel.must(I)V
set_option maxRecDepth 100000 in
set_option maxHeartbeats 4000000 in
def F_X12_must (n : Nat) (M : AM) (a0 : Nat) (a1 : Int32) : Option AM :=
  (rcv 12 M a0 (F_X12_is n M a0 a1)).bind fun v1 => if v1 = 0 then (rcv 12 M a0 (F_X12_fail n M a0 (1 : Int32))).bind fun M4 => some M4 else (rcv 12 M a0 (F_X12_goesOn n M a0)).bind fun M6 => some M6
set_option maxRecDepth 100000 in
set_option maxHeartbeats 4000000 in
theorem C_X12_must {n : Nat} {M : AM} {a0 : Nat} {a1 : Int32} {o : AM} (h : F_X12_must n M a0 a1 = some o) : Cn yX12_must cX12_must 2 none 2 [.ref a0, .int a1] M none o := by
  unfold F_X12_must at h
  refine Cn.of rfl (Nat.le_of_ble_eq_true rfl) ?_
  show G yX12_must cX12_must 2 none 2 0 [(0, .ref a0), (1, .int a1)] [] M none o
  refine G.aload_n dX12_must_0 rfl rfl ?_
  refine G.iload_n dX12_must_1 rfl rfl ?_
  refine G.callVi (ci := 12) [.int a1] [] dX12_must_2 lkX12_278 okX12_is rfl (fun v hv => C_X12_is hv) (Nat.le_of_ble_eq_true rfl) rfl rfl (Nat.le_of_ble_eq_true rfl) h (fun v1 h => ?_)
  refine G.if_eq 15 dX12_must_5 (by decide) h (fun c2 h => ?_) (fun c2 h => ?_)
  · refine G.aload_n dX12_must_15 rfl rfl ?_
    refine G.iconst (1 : Int32) dX12_must_16 ki_1 ?_
    refine G.callVv (ci := 12) [.int (1 : Int32)] [] dX12_must_17 lkX12_275 okX12_fail rfl (fun v hv => C_X12_fail hv) (Nat.le_of_ble_eq_true rfl) rfl rfl (Nat.le_of_ble_eq_true rfl) h (fun M4 h => ?_)
    exact G.vretW dX12_must_20 rfl h
  · refine G.aload_n dX12_must_8 rfl rfl ?_
    refine G.callVv (ci := 12) [] [] dX12_must_9 lkX12_281 okX12_goesOn rfl (fun v hv => C_X12_goesOn hv) (Nat.le_of_ble_eq_true rfl) rfl rfl (Nat.le_of_ble_eq_true rfl) h (fun M6 h => ?_)
    refine G.goto 20 dX12_must_12 (by decide) ?_
    exact G.vretW dX12_must_20 rfl h
-- OnlyUpwardModel.wrong(II)V
set_option maxRecDepth 100000 in
set_option maxHeartbeats 4000000 in
def F_X12_wrong (n : Nat) (M : AM) (a0 : Nat) (a1 : Int32) (a2 : Int32) : Option AM :=
  (gR 12 6 M a0).bind fun v1 => (rdI M v1 a2).bind fun v2 => (gI 12 13 M a0).bind fun v3 => if 0 < v3 then some M else (gI 12 15 M a0).bind fun v5 => jn ((pI 12 15 M a0 a1).bind fun M6 => (pI 12 16 M6 a0 v2).bind fun M7 => some M7) fun j8 => if v5 = 0 then j8 else (gI 12 16 M a0).bind fun v10 => if v10 < v2 then some M else (gI 12 16 M a0).bind fun v12 => if v2 = v12 then (gI 12 15 M a0).bind fun v14 => if a1 < v14 then j8 else some M else j8
set_option maxRecDepth 100000 in
set_option maxHeartbeats 4000000 in
theorem C_X12_wrong {n : Nat} {M : AM} {a0 : Nat} {a1 : Int32} {a2 : Int32} {o : AM} (h : F_X12_wrong n M a0 a1 a2 = some o) : Cn yX12_wrong cX12_wrong 4 none 0 [.ref a0, .int a1, .int a2] M none o := by
  unfold F_X12_wrong at h
  refine Cn.of rfl (Nat.le_of_ble_eq_true rfl) ?_
  show G yX12_wrong cX12_wrong 4 none 0 0 [(0, .ref a0), (1, .int a1), (2, .int a2)] [] M none o
  refine G.aload_n dX12_wrong_0 rfl rfl ?_
  refine G.getR dX12_wrong_1 fkX12_24 fr12_6 h (fun v1 h => ?_)
  refine G.iload_n dX12_wrong_4 rfl rfl ?_
  refine G.iald dX12_wrong_5 h (fun v2 h => ?_)
  refine G.istore_n (lv' := [(3, .int v2), (0, .ref a0), (1, .int a1), (2, .int a2)]) dX12_wrong_6 rfl (Nat.le_of_ble_eq_true rfl) rfl ?_
  refine G.aload_n dX12_wrong_7 rfl rfl ?_
  refine G.getI dX12_wrong_8 fkX12_260 fr12_13 h (fun v3 h => ?_)
  refine G.if_gt 45 dX12_wrong_11 (by decide) h (fun c4 h => ?_) (fun c4 h => ?_)
  · exact G.vretW dX12_wrong_45 rfl h
  · refine G.aload_n dX12_wrong_14 rfl rfl ?_
    refine G.getI dX12_wrong_15 fkX12_269 fr12_15 h (fun v5 h => ?_)
    refine jn_elim (fun j8 => j8 = some o → G yX12_wrong cX12_wrong 4 none 0 46 [(0, .ref a0), (1, .int a1), (3, .int v2)] [] M none o) h ?_ ?_
    · intro h
      refine G.aload_n dX12_wrong_46 rfl rfl ?_
      refine G.iload_n dX12_wrong_47 rfl rfl ?_
      refine G.putI dX12_wrong_48 fkX12_269 nf12_15 ft12_15 h (fun M6 h => ?_)
      refine G.aload_n dX12_wrong_51 rfl rfl ?_
      refine G.iload_n dX12_wrong_52 rfl rfl ?_
      refine G.putI dX12_wrong_53 fkX12_272 nf12_16 ft12_16 h (fun M7 h => ?_)
      exact G.vretW dX12_wrong_56 rfl h
    · intro j8 Jj8 h
      refine G.if_eq 46 dX12_wrong_18 (by decide) h (fun c9 h => ?_) (fun c9 h => ?_)
      · refine G.sub (lv' := [(0, .ref a0), (1, .int a1), (3, .int v2)]) [1, 2, 0] rfl ?_
        exact Jj8  h
      · refine G.iload_n dX12_wrong_21 rfl rfl ?_
        refine G.aload_n dX12_wrong_22 rfl rfl ?_
        refine G.getI dX12_wrong_23 fkX12_272 fr12_16 h (fun v10 h => ?_)
        refine G.icmp_gt 45 dX12_wrong_26 (by decide) h (fun c11 h => ?_) (fun c11 h => ?_)
        · exact G.vretW dX12_wrong_45 rfl h
        · refine G.iload_n dX12_wrong_29 rfl rfl ?_
          refine G.aload_n dX12_wrong_30 rfl rfl ?_
          refine G.getI dX12_wrong_31 fkX12_272 fr12_16 h (fun v12 h => ?_)
          refine G.icmp_ne 46 dX12_wrong_34 (by decide) h (fun c13 h => ?_) (fun c13 h => ?_)
          · refine G.iload_n dX12_wrong_37 rfl rfl ?_
            refine G.aload_n dX12_wrong_38 rfl rfl ?_
            refine G.getI dX12_wrong_39 fkX12_269 fr12_15 h (fun v14 h => ?_)
            refine G.icmp_lt 46 dX12_wrong_42 (by decide) h (fun c15 h => ?_) (fun c15 h => ?_)
            · refine G.sub (lv' := [(0, .ref a0), (1, .int a1), (3, .int v2)]) [1, 2, 0] rfl ?_
              exact Jj8  h
            · exact G.vretW dX12_wrong_45 rfl h
          · refine G.sub (lv' := [(0, .ref a0), (1, .int a1), (3, .int v2)]) [1, 2, 0] rfl ?_
            exact Jj8  h
-- OnlyUpwardModel.named()I
set_option maxRecDepth 100000 in
set_option maxHeartbeats 4000000 in
def F_X12_named (n : Nat) (M : AM) (a0 : Nat) : Option (Int32 × AM) :=
  (gI 12 11 M a0).bind fun v1 => (rcv 12 M a0 (F_X12_must n M a0 (1 : Int32))).bind fun M3 => (iter (fun (s4 : Int32 × AM) => (gI 12 20 s4.2 a0).bind fun v5 => if v5 ≤ s4.1 then some (.inr s4.2) else (gI 12 13 s4.2 a0).bind fun v7 => if v7 = 0 then (gR 12 21 s4.2 a0).bind fun v9 => (rdL s4.2 v9 s4.1).bind fun v10 => (gR 12 8 s4.2 a0).bind fun v11 => (rdL s4.2 v11 v1).bind fun v12 => jn (fun (M13 : AM) => some (.inl ((s4.1 + (1 : Int32)), M13))) fun j14 => if (lg_cmp v10 v12) = 0 then (rcv 12 s4.2 a0 (F_X12_wrong n s4.2 a0 (3 : Int32) v1)).bind fun M17 => j14 M17 else j14 s4.2 else some (.inr s4.2)) n ((0 : Int32), M3)).bind fun (e4 : AM) => some (v1, e4)
set_option maxRecDepth 100000 in
set_option maxHeartbeats 4000000 in
theorem C_X12_named {n : Nat} {M : AM} {a0 : Nat} {o : (Int32 × AM)} (h : F_X12_named n M a0 = some o) : Cn yX12_named cX12_named 3 (some .int) 3 [.ref a0] M (some (.int o.1)) o.2 := by
  unfold F_X12_named at h
  refine Cn.of rfl (Nat.le_of_ble_eq_true rfl) ?_
  show G yX12_named cX12_named 3 (some .int) 3 0 [(0, .ref a0)] [] M (some (.int o.1)) o.2
  refine G.aload_n dX12_named_0 rfl rfl ?_
  refine G.getI dX12_named_1 fkX12_263 fr12_11 h (fun v1 h => ?_)
  refine G.istore_n (lv' := [(1, .int v1), (0, .ref a0)]) dX12_named_4 rfl (Nat.le_of_ble_eq_true rfl) rfl ?_
  refine G.aload_n dX12_named_5 rfl rfl ?_
  refine G.iconst (1 : Int32) dX12_named_6 ki_1 ?_
  refine G.callVv (ci := 12) [.int (1 : Int32)] [] dX12_named_7 lkX12_314 okX12_must rfl (fun v hv => C_X12_must hv) (Nat.le_of_ble_eq_true rfl) rfl rfl (Nat.le_of_ble_eq_true rfl) h (fun M3 h => ?_)
  refine G.iconst (0 : Int32) dX12_named_10 ki_0 ?_
  refine G.istore_n (lv' := [(2, .int (0 : Int32)), (1, .int v1), (0, .ref a0)]) dX12_named_11 rfl (Nat.le_of_ble_eq_true rfl) rfl ?_
  refine G.sub (lv' := [(0, .ref a0), (1, .int v1), (2, .int (0 : Int32))]) [2, 1, 0] rfl ?_
  refine loopE (fun (s4 : Int32 × AM) => G yX12_named cX12_named 3 (some .int) 3 12 [(0, .ref a0), (1, .int v1), (2, .int s4.1)] [] s4.2 (some (.int o.1)) o.2) (fun (e4 : AM) => G yX12_named cX12_named 3 (some .int) 3 55 [(1, .int v1)] [] e4 (some (.int o.1)) o.2) h ?_ ?_
  · intro e4 h
    show G yX12_named cX12_named 3 (some .int) 3 55 [(1, .int v1)] [] e4 (some (.int o.1)) o.2
    refine G.iload_n dX12_named_55 rfl rfl ?_
    exact G.iretW dX12_named_56 rfl (rfl) h
  · intro s4 x4 h K4
    show G yX12_named cX12_named 3 (some .int) 3 12 [(0, .ref a0), (1, .int v1), (2, .int s4.1)] [] s4.2 (some (.int o.1)) o.2
    refine G.iload_n dX12_named_12 rfl rfl ?_
    refine G.aload_n dX12_named_13 rfl rfl ?_
    refine G.getI dX12_named_14 fkX12_296 fr12_20 h (fun v5 h => ?_)
    refine G.icmp_ge 55 dX12_named_17 (by decide) h (fun c6 h => ?_) (fun c6 h => ?_)
    · refine G.sub (lv' := [(1, .int v1)]) [1] rfl ?_
      have h := leafR' h K4
      exact h
    · refine G.aload_n dX12_named_20 rfl rfl ?_
      refine G.getI dX12_named_21 fkX12_260 fr12_13 h (fun v7 h => ?_)
      refine G.if_ne 55 dX12_named_24 (by decide) h (fun c8 h => ?_) (fun c8 h => ?_)
      · refine G.aload_n dX12_named_27 rfl rfl ?_
        refine G.getR dX12_named_28 fkX12_40 fr12_21 h (fun v9 h => ?_)
        refine G.iload_n dX12_named_31 rfl rfl ?_
        refine G.lald dX12_named_32 h (fun v10 h => ?_)
        refine G.aload_n dX12_named_33 rfl rfl ?_
        refine G.getR dX12_named_34 fkX12_30 fr12_8 h (fun v11 h => ?_)
        refine G.iload_n dX12_named_37 rfl rfl ?_
        refine G.lald dX12_named_38 h (fun v12 h => ?_)
        refine G.lcmp dX12_named_39 ?_
        refine jn_elim (fun j14 => ∀ (M13 : AM), j14 M13 = some x4 → G yX12_named cX12_named 3 (some .int) 3 49 [(0, .ref a0), (1, .int v1), (2, .int s4.1)] [] M13 (some (.int o.1)) o.2) h ?_ ?_
        · intro M13 h
          refine G.iinc s4.1 (w := (s4.1 + (1 : Int32))) (lv' := [(2, .int (s4.1 + (1 : Int32))), (0, .ref a0), (1, .int v1)]) dX12_named_49 rfl rfl (Nat.le_of_ble_eq_true rfl) rfl ?_
          refine G.goto 12 dX12_named_52 (by decide) ?_
          refine G.sub (lv' := [(0, .ref a0), (1, .int v1), (2, .int (s4.1 + (1 : Int32)))]) [1, 2, 0] rfl ?_
          have h := leafL' h K4
          exact h
        · intro j14 Jj14 h
          refine G.if_ne 49 dX12_named_40 (by decide) h (fun c15 h => ?_) (fun c15 h => ?_)
          · refine G.aload_n dX12_named_43 rfl rfl ?_
            refine G.iconst (3 : Int32) dX12_named_44 ki_3 ?_
            refine G.iload_n dX12_named_45 rfl rfl ?_
            refine G.callVv (ci := 12) [.int (3 : Int32), .int v1] [] dX12_named_46 lkX12_341 okX12_wrong rfl (fun v hv => C_X12_wrong hv) (Nat.le_of_ble_eq_true rfl) rfl rfl (Nat.le_of_ble_eq_true rfl) h (fun M17 h => ?_)
            refine G.sub (lv' := [(0, .ref a0), (1, .int v1), (2, .int s4.1)]) [0, 1, 2] rfl ?_
            exact Jj14 _ h
          · refine G.sub (lv' := [(0, .ref a0), (1, .int v1), (2, .int s4.1)]) [0, 1, 2] rfl ?_
            exact Jj14 _ h
      · refine G.sub (lv' := [(1, .int v1)]) [1] rfl ?_
        have h := leafR' h K4
        exact h
-- OnlyUpwardModel.comes(I)V
set_option maxRecDepth 100000 in
set_option maxHeartbeats 4000000 in
def F_X12_comes (n : Nat) (M : AM) (a0 : Nat) (a1 : Int32) : Option AM :=
  (rcv 12 M a0 (F_X12_must n M a0 (4 : Int32))).bind fun M2 => (gI 12 13 M2 a0).bind fun v3 => if v3 = 0 then (gR 12 24 M2 a0).bind fun v5 => (gI 12 19 M2 a0).bind fun v6 => (rdI M2 v5 (((8 : Int32) * v6) + a1)).bind fun v7 => (wrI M2 v5 (((8 : Int32) * v6) + a1) (v7 + (1 : Int32))).bind fun M8 => some M8 else some M2
set_option maxRecDepth 100000 in
set_option maxHeartbeats 4000000 in
theorem C_X12_comes {n : Nat} {M : AM} {a0 : Nat} {a1 : Int32} {o : AM} (h : F_X12_comes n M a0 a1 = some o) : Cn yX12_comes cX12_comes 2 none 3 [.ref a0, .int a1] M none o := by
  unfold F_X12_comes at h
  refine Cn.of rfl (Nat.le_of_ble_eq_true rfl) ?_
  show G yX12_comes cX12_comes 2 none 3 0 [(0, .ref a0), (1, .int a1)] [] M none o
  refine G.aload_n dX12_comes_0 rfl rfl ?_
  refine G.iconst (4 : Int32) dX12_comes_1 ki_4 ?_
  refine G.callVv (ci := 12) [.int (4 : Int32)] [] dX12_comes_2 lkX12_314 okX12_must rfl (fun v hv => C_X12_must hv) (Nat.le_of_ble_eq_true rfl) rfl rfl (Nat.le_of_ble_eq_true rfl) h (fun M2 h => ?_)
  refine G.aload_n dX12_comes_5 rfl rfl ?_
  refine G.getI dX12_comes_6 fkX12_260 fr12_13 h (fun v3 h => ?_)
  refine G.if_ne 30 dX12_comes_9 (by decide) h (fun c4 h => ?_) (fun c4 h => ?_)
  · refine G.aload_n dX12_comes_12 rfl rfl ?_
    refine G.getR dX12_comes_13 fkX12_49 fr12_24 h (fun v5 h => ?_)
    refine G.bipush (8 : Int32) dX12_comes_16 kb_8 ?_
    refine G.aload_n dX12_comes_18 rfl rfl ?_
    refine G.getI dX12_comes_19 fkX12_293 fr12_19 h (fun v6 h => ?_)
    refine G.imul dX12_comes_22 ?_
    refine G.iload_n dX12_comes_23 rfl rfl ?_
    refine G.iadd dX12_comes_24 ?_
    refine G.dup2 dX12_comes_25 rfl rfl ?_
    refine G.iald dX12_comes_26 h (fun v7 h => ?_)
    refine G.iconst (1 : Int32) dX12_comes_27 ki_1 ?_
    refine G.iadd dX12_comes_28 ?_
    refine G.iast dX12_comes_29 h (fun M8 h => ?_)
    exact G.vretW dX12_comes_30 rfl h
  · exact G.vretW dX12_comes_30 rfl h
-- OnlyUpwardModel.notes(III)V
set_option maxRecDepth 100000 in
set_option maxHeartbeats 4000000 in
def F_X12_notes (n : Nat) (M : AM) (a0 : Nat) (a1 : Int32) (a2 : Int32) (a3 : Int32) : Option AM :=
  (gI 12 13 M a0).bind fun v1 => if v1 ≤ 0 then (gR 12 21 M a0).bind fun v3 => (gI 12 20 M a0).bind fun v4 => (gR 12 8 M a0).bind fun v5 => (rdL M v5 a1).bind fun v6 => (wrL M v3 v4 v6).bind fun M7 => (gR 12 22 M7 a0).bind fun v8 => (gI 12 20 M7 a0).bind fun v9 => (wrI M7 v8 v9 a2).bind fun M10 => (gR 12 23 M10 a0).bind fun v11 => (gI 12 20 M10 a0).bind fun v12 => (wrI M10 v11 v12 a3).bind fun M13 => (gI 12 20 M13 a0).bind fun v14 => (pI 12 20 M13 a0 (v14 + (1 : Int32))).bind fun M15 => some M15 else some M
set_option maxRecDepth 100000 in
set_option maxHeartbeats 4000000 in
theorem C_X12_notes {n : Nat} {M : AM} {a0 : Nat} {a1 : Int32} {a2 : Int32} {a3 : Int32} {o : AM} (h : F_X12_notes n M a0 a1 a2 a3 = some o) : Cn yX12_notes cX12_notes 4 none 0 [.ref a0, .int a1, .int a2, .int a3] M none o := by
  unfold F_X12_notes at h
  refine Cn.of rfl (Nat.le_of_ble_eq_true rfl) ?_
  show G yX12_notes cX12_notes 4 none 0 0 [(0, .ref a0), (1, .int a1), (2, .int a2), (3, .int a3)] [] M none o
  refine G.aload_n dX12_notes_0 rfl rfl ?_
  refine G.getI dX12_notes_1 fkX12_260 fr12_13 h (fun v1 h => ?_)
  refine G.if_le 8 dX12_notes_4 (by decide) h (fun c2 h => ?_) (fun c2 h => ?_)
  · refine G.aload_n dX12_notes_8 rfl rfl ?_
    refine G.getR dX12_notes_9 fkX12_40 fr12_21 h (fun v3 h => ?_)
    refine G.aload_n dX12_notes_12 rfl rfl ?_
    refine G.getI dX12_notes_13 fkX12_296 fr12_20 h (fun v4 h => ?_)
    refine G.aload_n dX12_notes_16 rfl rfl ?_
    refine G.getR dX12_notes_17 fkX12_30 fr12_8 h (fun v5 h => ?_)
    refine G.iload_n dX12_notes_20 rfl rfl ?_
    refine G.lald dX12_notes_21 h (fun v6 h => ?_)
    refine G.last dX12_notes_22 h (fun M7 h => ?_)
    refine G.aload_n dX12_notes_23 rfl rfl ?_
    refine G.getR dX12_notes_24 fkX12_43 fr12_22 h (fun v8 h => ?_)
    refine G.aload_n dX12_notes_27 rfl rfl ?_
    refine G.getI dX12_notes_28 fkX12_296 fr12_20 h (fun v9 h => ?_)
    refine G.iload_n dX12_notes_31 rfl rfl ?_
    refine G.iast dX12_notes_32 h (fun M10 h => ?_)
    refine G.aload_n dX12_notes_33 rfl rfl ?_
    refine G.getR dX12_notes_34 fkX12_46 fr12_23 h (fun v11 h => ?_)
    refine G.aload_n dX12_notes_37 rfl rfl ?_
    refine G.getI dX12_notes_38 fkX12_296 fr12_20 h (fun v12 h => ?_)
    refine G.iload_n dX12_notes_41 rfl rfl ?_
    refine G.iast dX12_notes_42 h (fun M13 h => ?_)
    refine G.aload_n dX12_notes_43 rfl rfl ?_
    refine G.dup dX12_notes_44 rfl ?_
    refine G.getI dX12_notes_45 fkX12_296 fr12_20 h (fun v14 h => ?_)
    refine G.iconst (1 : Int32) dX12_notes_48 ki_1 ?_
    refine G.iadd dX12_notes_49 ?_
    refine G.putI dX12_notes_50 fkX12_296 nf12_20 ft12_20 h (fun M15 h => ?_)
    exact G.vretW dX12_notes_53 rfl h
  · exact G.vretW dX12_notes_7 rfl h
-- OnlyUpwardModel.bounded(II)I
set_option maxRecDepth 100000 in
set_option maxHeartbeats 4000000 in
def F_X12_bounded (n : Nat) (M : AM) (a0 : Nat) (a1 : Int32) (a2 : Int32) : Option (Int32 × AM) :=
  (gI 12 13 M a0).bind fun v1 => jn ((rcv 12 M a0 (F_X12_fail n M a0 (1 : Int32))).bind fun M3 => some (a1, M3)) fun j4 => if 0 < v1 then j4 else (rcv 12 M a0 (F_X12_is n M a0 (2 : Int32))).bind fun v6 => if v6 = 0 then j4 else (gR 12 7 M a0).bind fun v8 => (gI 12 11 M a0).bind fun v9 => (rdI M v8 v9).bind fun v10 => jn (fun (M11 : AM) => (rcv 12 M11 a0 (F_X12_goesOn n M11 a0)).bind fun M13 => some (v10, M13)) fun j14 => jn ((gI 12 11 M a0).bind fun v15 => (rcv 12 M a0 (F_X12_wrong n M a0 (5 : Int32) v15)).bind fun M17 => j14 M17) fun j18 => if v10 < a1 then j18 else if v10 ≤ a2 then j14 M else j18
set_option maxRecDepth 100000 in
set_option maxHeartbeats 4000000 in
theorem C_X12_bounded {n : Nat} {M : AM} {a0 : Nat} {a1 : Int32} {a2 : Int32} {o : (Int32 × AM)} (h : F_X12_bounded n M a0 a1 a2 = some o) : Cn yX12_bounded cX12_bounded 4 (some .int) 2 [.ref a0, .int a1, .int a2] M (some (.int o.1)) o.2 := by
  unfold F_X12_bounded at h
  refine Cn.of rfl (Nat.le_of_ble_eq_true rfl) ?_
  show G yX12_bounded cX12_bounded 4 (some .int) 2 0 [(0, .ref a0), (1, .int a1), (2, .int a2)] [] M (some (.int o.1)) o.2
  refine G.aload_n dX12_bounded_0 rfl rfl ?_
  refine G.getI dX12_bounded_1 fkX12_260 fr12_13 h (fun v1 h => ?_)
  refine jn_elim (fun j4 => j4 = some o → G yX12_bounded cX12_bounded 4 (some .int) 2 15 [(0, .ref a0), (1, .int a1)] [] M (some (.int o.1)) o.2) h ?_ ?_
  · intro h
    refine G.aload_n dX12_bounded_15 rfl rfl ?_
    refine G.iconst (1 : Int32) dX12_bounded_16 ki_1 ?_
    refine G.callVv (ci := 12) [.int (1 : Int32)] [] dX12_bounded_17 lkX12_275 okX12_fail rfl (fun v hv => C_X12_fail hv) (Nat.le_of_ble_eq_true rfl) rfl rfl (Nat.le_of_ble_eq_true rfl) h (fun M3 h => ?_)
    refine G.iload_n dX12_bounded_20 rfl rfl ?_
    exact G.iretW dX12_bounded_21 rfl (rfl) h
  · intro j4 Jj4 h
    refine G.if_gt 15 dX12_bounded_4 (by decide) h (fun c5 h => ?_) (fun c5 h => ?_)
    · refine G.sub (lv' := [(0, .ref a0), (1, .int a1)]) [0, 1] rfl ?_
      exact Jj4  h
    · refine G.aload_n dX12_bounded_7 rfl rfl ?_
      refine G.iconst (2 : Int32) dX12_bounded_8 ki_2 ?_
      refine G.callVi (ci := 12) [.int (2 : Int32)] [] dX12_bounded_9 lkX12_278 okX12_is rfl (fun v hv => C_X12_is hv) (Nat.le_of_ble_eq_true rfl) rfl rfl (Nat.le_of_ble_eq_true rfl) h (fun v6 h => ?_)
      refine G.if_ne 22 dX12_bounded_12 (by decide) h (fun c7 h => ?_) (fun c7 h => ?_)
      · refine G.sub (lv' := [(0, .ref a0), (1, .int a1)]) [0, 1] rfl ?_
        exact Jj4  h
      · refine G.aload_n dX12_bounded_22 rfl rfl ?_
        refine G.getR dX12_bounded_23 fkX12_27 fr12_7 h (fun v8 h => ?_)
        refine G.aload_n dX12_bounded_26 rfl rfl ?_
        refine G.getI dX12_bounded_27 fkX12_263 fr12_11 h (fun v9 h => ?_)
        refine G.iald dX12_bounded_30 h (fun v10 h => ?_)
        refine G.istore_n (lv' := [(3, .int v10), (0, .ref a0), (1, .int a1), (2, .int a2)]) dX12_bounded_31 rfl (Nat.le_of_ble_eq_true rfl) rfl ?_
        refine G.iload_n dX12_bounded_32 rfl rfl ?_
        refine G.iload_n dX12_bounded_33 rfl rfl ?_
        refine jn_elim (fun j14 => ∀ (M11 : AM), j14 M11 = some o → G yX12_bounded cX12_bounded 4 (some .int) 2 51 [(0, .ref a0), (3, .int v10)] [] M11 (some (.int o.1)) o.2) h ?_ ?_
        · intro M11 h
          refine G.aload_n dX12_bounded_51 rfl rfl ?_
          refine G.callVv (ci := 12) [] [] dX12_bounded_52 lkX12_281 okX12_goesOn rfl (fun v hv => C_X12_goesOn hv) (Nat.le_of_ble_eq_true rfl) rfl rfl (Nat.le_of_ble_eq_true rfl) h (fun M13 h => ?_)
          refine G.iload_n dX12_bounded_55 rfl rfl ?_
          exact G.iretW dX12_bounded_56 rfl (rfl) h
        · intro j14 Jj14 h
          refine jn_elim (fun j18 => j18 = some o → G yX12_bounded cX12_bounded 4 (some .int) 2 42 [(0, .ref a0), (3, .int v10)] [] M (some (.int o.1)) o.2) h ?_ ?_
          · intro h
            refine G.aload_n dX12_bounded_42 rfl rfl ?_
            refine G.iconst (5 : Int32) dX12_bounded_43 ki_5 ?_
            refine G.aload_n dX12_bounded_44 rfl rfl ?_
            refine G.getI dX12_bounded_45 fkX12_263 fr12_11 h (fun v15 h => ?_)
            refine G.callVv (ci := 12) [.int (5 : Int32), .int v15] [] dX12_bounded_48 lkX12_341 okX12_wrong rfl (fun v hv => C_X12_wrong hv) (Nat.le_of_ble_eq_true rfl) rfl rfl (Nat.le_of_ble_eq_true rfl) h (fun M17 h => ?_)
            refine G.sub (lv' := [(0, .ref a0), (3, .int v10)]) [0, 1] rfl ?_
            exact Jj14 _ h
          · intro j18 Jj18 h
            refine G.icmp_lt 42 dX12_bounded_34 (by decide) h (fun c19 h => ?_) (fun c19 h => ?_)
            · refine G.sub (lv' := [(0, .ref a0), (3, .int v10)]) [1, 0] rfl ?_
              exact Jj18  h
            · refine G.iload_n dX12_bounded_37 rfl rfl ?_
              refine G.iload_n dX12_bounded_38 rfl rfl ?_
              refine G.icmp_le 51 dX12_bounded_39 (by decide) h (fun c20 h => ?_) (fun c20 h => ?_)
              · refine G.sub (lv' := [(0, .ref a0), (3, .int v10)]) [1, 0] rfl ?_
                exact Jj14 _ h
              · refine G.sub (lv' := [(0, .ref a0), (3, .int v10)]) [1, 0] rfl ?_
                exact Jj18  h
-- OnlyUpwardModel.tellPerson()V
set_option maxRecDepth 100000 in
set_option maxHeartbeats 4000000 in
def F_X12_tellPerson (n : Nat) (M : AM) (a0 : Nat) : Option AM :=
  (rcv 12 M a0 (F_X12_next n M a0 (1 : Int32))).bind fun v1 => (rcv 12 v1.2 a0 (F_X12_named n v1.2 a0)).bind fun v2 => (rcv 12 v2.2 a0 (F_X12_bounded n v2.2 a0 (0 : Int32) (99 : Int32))).bind fun v3 => (gI 12 13 v3.2 a0).bind fun v4 => jn (fun (u5 : Int32) (M6 : AM) => (rcv 12 M6 a0 (F_X12_comes n M6 a0 (1 : Int32))).bind fun M8 => (rcv 12 M8 a0 (F_X12_notes n M8 a0 v2.1 (1 : Int32) v1.1)).bind fun M10 => (gI 12 13 M10 a0).bind fun v11 => if v11 ≤ 0 then (gR 12 26 M10 a0).bind fun v13 => (gI 12 19 M10 a0).bind fun v14 => (wrI M10 v13 (((10 : Int32) * v14) + v1.1) v3.1).bind fun M15 => (gR 12 27 M15 a0).bind fun v16 => (gI 12 19 M15 a0).bind fun v17 => (wrI M15 v16 (((10 : Int32) * v17) + v1.1) u5).bind fun M18 => some M18 else some M10) fun j19 => if v4 = 0 then (rcv 12 v3.2 a0 (F_X12_is n v3.2 a0 (22 : Int32))).bind fun v21 => if v21 = 0 then j19 (99 : Int32) v3.2 else (rcv 12 v3.2 a0 (F_X12_goesOn n v3.2 a0)).bind fun M24 => (rcv 12 M24 a0 (F_X12_bounded n M24 a0 (0 : Int32) (23 : Int32))).bind fun v25 => j19 v25.1 v25.2 else j19 (99 : Int32) v3.2
set_option maxRecDepth 100000 in
set_option maxHeartbeats 4000000 in
theorem C_X12_tellPerson {n : Nat} {M : AM} {a0 : Nat} {o : AM} (h : F_X12_tellPerson n M a0 = some o) : Cn yX12_tellPerson cX12_tellPerson 5 none 4 [.ref a0] M none o := by
  unfold F_X12_tellPerson at h
  refine Cn.of rfl (Nat.le_of_ble_eq_true rfl) ?_
  show G yX12_tellPerson cX12_tellPerson 5 none 4 0 [(0, .ref a0)] [] M none o
  refine G.aload_n dX12_tellPerson_0 rfl rfl ?_
  refine G.iconst (1 : Int32) dX12_tellPerson_1 ki_1 ?_
  refine G.callVi (ci := 12) [.int (1 : Int32)] [] dX12_tellPerson_2 lkX12_317 okX12_next rfl (fun v hv => C_X12_next hv) (Nat.le_of_ble_eq_true rfl) rfl rfl (Nat.le_of_ble_eq_true rfl) h (fun v1 h => ?_)
  refine G.istore_n (lv' := [(1, .int v1.1), (0, .ref a0)]) dX12_tellPerson_5 rfl (Nat.le_of_ble_eq_true rfl) rfl ?_
  refine G.aload_n dX12_tellPerson_6 rfl rfl ?_
  refine G.callVi (ci := 12) [] [] dX12_tellPerson_7 lkX12_320 okX12_named rfl (fun v hv => C_X12_named hv) (Nat.le_of_ble_eq_true rfl) rfl rfl (Nat.le_of_ble_eq_true rfl) h (fun v2 h => ?_)
  refine G.istore_n (lv' := [(2, .int v2.1), (1, .int v1.1), (0, .ref a0)]) dX12_tellPerson_10 rfl (Nat.le_of_ble_eq_true rfl) rfl ?_
  refine G.aload_n dX12_tellPerson_11 rfl rfl ?_
  refine G.iconst (0 : Int32) dX12_tellPerson_12 ki_0 ?_
  refine G.bipush (99 : Int32) dX12_tellPerson_13 kb_99 ?_
  refine G.callVi (ci := 12) [.int (0 : Int32), .int (99 : Int32)] [] dX12_tellPerson_15 lkX12_334 okX12_bounded rfl (fun v hv => C_X12_bounded hv) (Nat.le_of_ble_eq_true rfl) rfl rfl (Nat.le_of_ble_eq_true rfl) h (fun v3 h => ?_)
  refine G.istore_n (lv' := [(3, .int v3.1), (2, .int v2.1), (1, .int v1.1), (0, .ref a0)]) dX12_tellPerson_18 rfl (Nat.le_of_ble_eq_true rfl) rfl ?_
  refine G.bipush (99 : Int32) dX12_tellPerson_19 kb_99 ?_
  refine G.istore (lv' := [(4, .int (99 : Int32)), (3, .int v3.1), (2, .int v2.1), (1, .int v1.1), (0, .ref a0)]) dX12_tellPerson_21 (Nat.le_of_ble_eq_true rfl) rfl ?_
  refine G.aload_n dX12_tellPerson_23 rfl rfl ?_
  refine G.getI dX12_tellPerson_24 fkX12_260 fr12_13 h (fun v4 h => ?_)
  refine jn_elim (fun j19 => ∀ (u5 : Int32) (M6 : AM), j19 u5 M6 = some o → G yX12_tellPerson cX12_tellPerson 5 none 4 52 [(0, .ref a0), (1, .int v1.1), (2, .int v2.1), (3, .int v3.1), (4, .int u5)] [] M6 none o) h ?_ ?_
  · intro u5 M6 h
    refine G.aload_n dX12_tellPerson_52 rfl rfl ?_
    refine G.iconst (1 : Int32) dX12_tellPerson_53 ki_1 ?_
    refine G.callVv (ci := 12) [.int (1 : Int32)] [] dX12_tellPerson_54 lkX12_324 okX12_comes rfl (fun v hv => C_X12_comes hv) (Nat.le_of_ble_eq_true rfl) rfl rfl (Nat.le_of_ble_eq_true rfl) h (fun M8 h => ?_)
    refine G.aload_n dX12_tellPerson_57 rfl rfl ?_
    refine G.iload_n dX12_tellPerson_58 rfl rfl ?_
    refine G.iconst (1 : Int32) dX12_tellPerson_59 ki_1 ?_
    refine G.iload_n dX12_tellPerson_60 rfl rfl ?_
    refine G.callVv (ci := 12) [.int v2.1, .int (1 : Int32), .int v1.1] [] dX12_tellPerson_61 lkX12_327 okX12_notes rfl (fun v hv => C_X12_notes hv) (Nat.le_of_ble_eq_true rfl) rfl rfl (Nat.le_of_ble_eq_true rfl) h (fun M10 h => ?_)
    refine G.aload_n dX12_tellPerson_64 rfl rfl ?_
    refine G.getI dX12_tellPerson_65 fkX12_260 fr12_13 h (fun v11 h => ?_)
    refine G.if_le 72 dX12_tellPerson_68 (by decide) h (fun c12 h => ?_) (fun c12 h => ?_)
    · refine G.aload_n dX12_tellPerson_72 rfl rfl ?_
      refine G.getR dX12_tellPerson_73 fkX12_55 fr12_26 h (fun v13 h => ?_)
      refine G.bipush (10 : Int32) dX12_tellPerson_76 kb_10 ?_
      refine G.aload_n dX12_tellPerson_78 rfl rfl ?_
      refine G.getI dX12_tellPerson_79 fkX12_293 fr12_19 h (fun v14 h => ?_)
      refine G.imul dX12_tellPerson_82 ?_
      refine G.iload_n dX12_tellPerson_83 rfl rfl ?_
      refine G.iadd dX12_tellPerson_84 ?_
      refine G.iload_n dX12_tellPerson_85 rfl rfl ?_
      refine G.iast dX12_tellPerson_86 h (fun M15 h => ?_)
      refine G.aload_n dX12_tellPerson_87 rfl rfl ?_
      refine G.getR dX12_tellPerson_88 fkX12_58 fr12_27 h (fun v16 h => ?_)
      refine G.bipush (10 : Int32) dX12_tellPerson_91 kb_10 ?_
      refine G.aload_n dX12_tellPerson_93 rfl rfl ?_
      refine G.getI dX12_tellPerson_94 fkX12_293 fr12_19 h (fun v17 h => ?_)
      refine G.imul dX12_tellPerson_97 ?_
      refine G.iload_n dX12_tellPerson_98 rfl rfl ?_
      refine G.iadd dX12_tellPerson_99 ?_
      refine G.iload dX12_tellPerson_100 rfl ?_
      refine G.iast dX12_tellPerson_102 h (fun M18 h => ?_)
      exact G.vretW dX12_tellPerson_103 rfl h
    · exact G.vretW dX12_tellPerson_71 rfl h
  · intro j19 Jj19 h
    refine G.if_ne 52 dX12_tellPerson_27 (by decide) h (fun c20 h => ?_) (fun c20 h => ?_)
    · refine G.aload_n dX12_tellPerson_30 rfl rfl ?_
      refine G.bipush (22 : Int32) dX12_tellPerson_31 kb_22 ?_
      refine G.callVi (ci := 12) [.int (22 : Int32)] [] dX12_tellPerson_33 lkX12_278 okX12_is rfl (fun v hv => C_X12_is hv) (Nat.le_of_ble_eq_true rfl) rfl rfl (Nat.le_of_ble_eq_true rfl) h (fun v21 h => ?_)
      refine G.if_eq 52 dX12_tellPerson_36 (by decide) h (fun c22 h => ?_) (fun c22 h => ?_)
      · refine G.sub (lv' := [(0, .ref a0), (1, .int v1.1), (2, .int v2.1), (3, .int v3.1), (4, .int (99 : Int32))]) [4, 3, 2, 1, 0] rfl ?_
        exact Jj19 _ _ h
      · refine G.aload_n dX12_tellPerson_39 rfl rfl ?_
        refine G.callVv (ci := 12) [] [] dX12_tellPerson_40 lkX12_281 okX12_goesOn rfl (fun v hv => C_X12_goesOn hv) (Nat.le_of_ble_eq_true rfl) rfl rfl (Nat.le_of_ble_eq_true rfl) h (fun M24 h => ?_)
        refine G.aload_n dX12_tellPerson_43 rfl rfl ?_
        refine G.iconst (0 : Int32) dX12_tellPerson_44 ki_0 ?_
        refine G.bipush (23 : Int32) dX12_tellPerson_45 kb_23 ?_
        refine G.callVi (ci := 12) [.int (0 : Int32), .int (23 : Int32)] [] dX12_tellPerson_47 lkX12_334 okX12_bounded rfl (fun v hv => C_X12_bounded hv) (Nat.le_of_ble_eq_true rfl) rfl rfl (Nat.le_of_ble_eq_true rfl) h (fun v25 h => ?_)
        refine G.istore (lv' := [(4, .int v25.1), (3, .int v3.1), (2, .int v2.1), (1, .int v1.1), (0, .ref a0)]) dX12_tellPerson_50 (Nat.le_of_ble_eq_true rfl) rfl ?_
        refine G.sub (lv' := [(0, .ref a0), (1, .int v1.1), (2, .int v2.1), (3, .int v3.1), (4, .int v25.1)]) [4, 3, 2, 1, 0] rfl ?_
        exact Jj19 _ _ h
    · refine G.sub (lv' := [(0, .ref a0), (1, .int v1.1), (2, .int v2.1), (3, .int v3.1), (4, .int (99 : Int32))]) [4, 3, 2, 1, 0] rfl ?_
      exact Jj19 _ _ h
-- OnlyUpwardModel.known(I)I
set_option maxRecDepth 100000 in
set_option maxHeartbeats 4000000 in
def F_X12_known (n : Nat) (M : AM) (a0 : Nat) (a1 : Int32) : Option (Int32 × AM) :=
  (gI 12 11 M a0).bind fun v1 => (rcv 12 M a0 (F_X12_must n M a0 (1 : Int32))).bind fun M3 => (gI 12 13 M3 a0).bind fun v4 => if v4 ≤ 0 then (iter (fun (s6 : Int32 × Int32) => (gI 12 20 M3 a0).bind fun v7 => if v7 ≤ s6.2 then some (.inr s6.1) else jn (fun (u9 : Int32) => some (.inl (u9, (s6.2 + (1 : Int32))))) fun j10 => if s6.1 = (-1 : Int32) then (gR 12 21 M3 a0).bind fun v12 => (rdL M3 v12 s6.2).bind fun v13 => (gR 12 8 M3 a0).bind fun v14 => (rdL M3 v14 v1).bind fun v15 => if (lg_cmp v13 v15) = 0 then (gR 12 22 M3 a0).bind fun v17 => (rdI M3 v17 s6.2).bind fun v18 => if v18 = a1 then (gR 12 23 M3 a0).bind fun v20 => (rdI M3 v20 s6.2).bind fun v21 => j10 v21 else j10 s6.1 else j10 s6.1 else j10 s6.1) n ((-1 : Int32), (0 : Int32))).bind fun (e6 : Int32) => if e6 = (-1 : Int32) then (rcv 12 M3 a0 (F_X12_wrong n M3 a0 (4 : Int32) v1)).bind fun M24 => some (e6, M24) else some (e6, M3) else some ((-1 : Int32), M3)
set_option maxRecDepth 100000 in
set_option maxHeartbeats 4000000 in
theorem C_X12_known {n : Nat} {M : AM} {a0 : Nat} {a1 : Int32} {o : (Int32 × AM)} (h : F_X12_known n M a0 a1 = some o) : Cn yX12_known cX12_known 5 (some .int) 3 [.ref a0, .int a1] M (some (.int o.1)) o.2 := by
  unfold F_X12_known at h
  refine Cn.of rfl (Nat.le_of_ble_eq_true rfl) ?_
  show G yX12_known cX12_known 5 (some .int) 3 0 [(0, .ref a0), (1, .int a1)] [] M (some (.int o.1)) o.2
  refine G.aload_n dX12_known_0 rfl rfl ?_
  refine G.getI dX12_known_1 fkX12_263 fr12_11 h (fun v1 h => ?_)
  refine G.istore_n (lv' := [(2, .int v1), (0, .ref a0), (1, .int a1)]) dX12_known_4 rfl (Nat.le_of_ble_eq_true rfl) rfl ?_
  refine G.aload_n dX12_known_5 rfl rfl ?_
  refine G.iconst (1 : Int32) dX12_known_6 ki_1 ?_
  refine G.callVv (ci := 12) [.int (1 : Int32)] [] dX12_known_7 lkX12_314 okX12_must rfl (fun v hv => C_X12_must hv) (Nat.le_of_ble_eq_true rfl) rfl rfl (Nat.le_of_ble_eq_true rfl) h (fun M3 h => ?_)
  refine G.aload_n dX12_known_10 rfl rfl ?_
  refine G.getI dX12_known_11 fkX12_260 fr12_13 h (fun v4 h => ?_)
  refine G.if_le 19 dX12_known_14 (by decide) h (fun c5 h => ?_) (fun c5 h => ?_)
  · refine G.iconst (-1 : Int32) dX12_known_19 ki_m1 ?_
    refine G.istore_n (lv' := [(3, .int (-1 : Int32)), (2, .int v1), (0, .ref a0), (1, .int a1)]) dX12_known_20 rfl (Nat.le_of_ble_eq_true rfl) rfl ?_
    refine G.iconst (0 : Int32) dX12_known_21 ki_0 ?_
    refine G.istore (lv' := [(4, .int (0 : Int32)), (3, .int (-1 : Int32)), (2, .int v1), (0, .ref a0), (1, .int a1)]) dX12_known_22 (Nat.le_of_ble_eq_true rfl) rfl ?_
    refine G.sub (lv' := [(0, .ref a0), (1, .int a1), (2, .int v1), (3, .int (-1 : Int32)), (4, .int (0 : Int32))]) [3, 4, 2, 1, 0] rfl ?_
    refine loopE (fun (s6 : Int32 × Int32) => G yX12_known cX12_known 5 (some .int) 3 24 [(0, .ref a0), (1, .int a1), (2, .int v1), (3, .int s6.1), (4, .int s6.2)] [] M3 (some (.int o.1)) o.2) (fun (e6 : Int32) => G yX12_known cX12_known 5 (some .int) 3 80 [(0, .ref a0), (2, .int v1), (3, .int e6)] [] M3 (some (.int o.1)) o.2) h ?_ ?_
    · intro e6 h
      show G yX12_known cX12_known 5 (some .int) 3 80 [(0, .ref a0), (2, .int v1), (3, .int e6)] [] M3 (some (.int o.1)) o.2
      refine G.iload_n dX12_known_80 rfl rfl ?_
      refine G.iconst (-1 : Int32) dX12_known_81 ki_m1 ?_
      refine G.icmp_ne 91 dX12_known_82 (by decide) h (fun c22 h => ?_) (fun c22 h => ?_)
      · refine G.aload_n dX12_known_85 rfl rfl ?_
        refine G.iconst (4 : Int32) dX12_known_86 ki_4 ?_
        refine G.iload_n dX12_known_87 rfl rfl ?_
        refine G.callVv (ci := 12) [.int (4 : Int32), .int v1] [] dX12_known_88 lkX12_341 okX12_wrong rfl (fun v hv => C_X12_wrong hv) (Nat.le_of_ble_eq_true rfl) rfl rfl (Nat.le_of_ble_eq_true rfl) h (fun M24 h => ?_)
        refine G.iload_n dX12_known_91 rfl rfl ?_
        exact G.iretW dX12_known_92 rfl (rfl) h
      · refine G.iload_n dX12_known_91 rfl rfl ?_
        exact G.iretW dX12_known_92 rfl (rfl) h
    · intro s6 x6 h K6
      show G yX12_known cX12_known 5 (some .int) 3 24 [(0, .ref a0), (1, .int a1), (2, .int v1), (3, .int s6.1), (4, .int s6.2)] [] M3 (some (.int o.1)) o.2
      refine G.iload dX12_known_24 rfl ?_
      refine G.aload_n dX12_known_26 rfl rfl ?_
      refine G.getI dX12_known_27 fkX12_296 fr12_20 h (fun v7 h => ?_)
      refine G.icmp_ge 80 dX12_known_30 (by decide) h (fun c8 h => ?_) (fun c8 h => ?_)
      · refine G.sub (lv' := [(0, .ref a0), (2, .int v1), (3, .int s6.1)]) [0, 2, 3] rfl ?_
        have h := leafR' h K6
        exact h
      · refine G.iload_n dX12_known_33 rfl rfl ?_
        refine G.iconst (-1 : Int32) dX12_known_34 ki_m1 ?_
        refine jn_elim (fun j10 => ∀ (u9 : Int32), j10 u9 = some x6 → G yX12_known cX12_known 5 (some .int) 3 74 [(0, .ref a0), (1, .int a1), (2, .int v1), (3, .int u9), (4, .int s6.2)] [] M3 (some (.int o.1)) o.2) h ?_ ?_
        · intro u9 h
          refine G.iinc s6.2 (w := (s6.2 + (1 : Int32))) (lv' := [(4, .int (s6.2 + (1 : Int32))), (0, .ref a0), (1, .int a1), (2, .int v1), (3, .int u9)]) dX12_known_74 rfl rfl (Nat.le_of_ble_eq_true rfl) rfl ?_
          refine G.goto 24 dX12_known_77 (by decide) ?_
          refine G.sub (lv' := [(0, .ref a0), (1, .int a1), (2, .int v1), (3, .int u9), (4, .int (s6.2 + (1 : Int32)))]) [1, 2, 3, 4, 0] rfl ?_
          have h := leafL' h K6
          exact h
        · intro j10 Jj10 h
          refine G.icmp_ne 74 dX12_known_35 (by decide) h (fun c11 h => ?_) (fun c11 h => ?_)
          · refine G.aload_n dX12_known_38 rfl rfl ?_
            refine G.getR dX12_known_39 fkX12_40 fr12_21 h (fun v12 h => ?_)
            refine G.iload dX12_known_42 rfl ?_
            refine G.lald dX12_known_44 h (fun v13 h => ?_)
            refine G.aload_n dX12_known_45 rfl rfl ?_
            refine G.getR dX12_known_46 fkX12_30 fr12_8 h (fun v14 h => ?_)
            refine G.iload_n dX12_known_49 rfl rfl ?_
            refine G.lald dX12_known_50 h (fun v15 h => ?_)
            refine G.lcmp dX12_known_51 ?_
            refine G.if_ne 74 dX12_known_52 (by decide) h (fun c16 h => ?_) (fun c16 h => ?_)
            · refine G.aload_n dX12_known_55 rfl rfl ?_
              refine G.getR dX12_known_56 fkX12_43 fr12_22 h (fun v17 h => ?_)
              refine G.iload dX12_known_59 rfl ?_
              refine G.iald dX12_known_61 h (fun v18 h => ?_)
              refine G.iload_n dX12_known_62 rfl rfl ?_
              refine G.icmp_ne 74 dX12_known_63 (by decide) h (fun c19 h => ?_) (fun c19 h => ?_)
              · refine G.aload_n dX12_known_66 rfl rfl ?_
                refine G.getR dX12_known_67 fkX12_46 fr12_23 h (fun v20 h => ?_)
                refine G.iload dX12_known_70 rfl ?_
                refine G.iald dX12_known_72 h (fun v21 h => ?_)
                refine G.istore_n (lv' := [(3, .int v21), (0, .ref a0), (1, .int a1), (2, .int v1), (4, .int s6.2)]) dX12_known_73 rfl (Nat.le_of_ble_eq_true rfl) rfl ?_
                refine G.sub (lv' := [(0, .ref a0), (1, .int a1), (2, .int v1), (3, .int v21), (4, .int s6.2)]) [1, 2, 3, 0, 4] rfl ?_
                exact Jj10 _ h
              · refine G.sub (lv' := [(0, .ref a0), (1, .int a1), (2, .int v1), (3, .int s6.1), (4, .int s6.2)]) [0, 1, 2, 3, 4] rfl ?_
                exact Jj10 _ h
            · refine G.sub (lv' := [(0, .ref a0), (1, .int a1), (2, .int v1), (3, .int s6.1), (4, .int s6.2)]) [0, 1, 2, 3, 4] rfl ?_
              exact Jj10 _ h
          · refine G.sub (lv' := [(0, .ref a0), (1, .int a1), (2, .int v1), (3, .int s6.1), (4, .int s6.2)]) [0, 1, 2, 3, 4] rfl ?_
            exact Jj10 _ h
  · refine G.iconst (-1 : Int32) dX12_known_17 ki_m1 ?_
    exact G.iretW dX12_known_18 rfl (rfl) h
-- OnlyUpwardModel.tellStay()V
set_option maxRecDepth 100000 in
set_option maxHeartbeats 4000000 in
def F_X12_tellStay (n : Nat) (M : AM) (a0 : Nat) : Option AM :=
  (rcv 12 M a0 (F_X12_next n M a0 (4 : Int32))).bind fun v1 => (rcv 12 v1.2 a0 (F_X12_known n v1.2 a0 (1 : Int32))).bind fun v2 => (rcv 12 v2.2 a0 (F_X12_known n v2.2 a0 (0 : Int32))).bind fun v3 => (rcv 12 v3.2 a0 (F_X12_bounded n v3.2 a0 (0 : Int32) (23 : Int32))).bind fun v4 => jn (fun (u5 : Int32) => (rcv 12 v4.2 a0 (F_X12_bounded n v4.2 a0 u5 (23 : Int32))).bind fun v6 => (rcv 12 v6.2 a0 (F_X12_comes n v6.2 a0 (4 : Int32))).bind fun M8 => (gI 12 13 M8 a0).bind fun v9 => if v9 ≤ 0 then (gR 12 31 M8 a0).bind fun v11 => (gI 12 19 M8 a0).bind fun v12 => (wrI M8 v11 (((20 : Int32) * v12) + v1.1) v2.1).bind fun M13 => (gR 12 32 M13 a0).bind fun v14 => (gI 12 19 M13 a0).bind fun v15 => (wrI M13 v14 (((20 : Int32) * v15) + v1.1) v3.1).bind fun M16 => (gR 12 33 M16 a0).bind fun v17 => (gI 12 19 M16 a0).bind fun v18 => (wrI M16 v17 (((20 : Int32) * v18) + v1.1) v4.1).bind fun M19 => (gR 12 34 M19 a0).bind fun v20 => (gI 12 19 M19 a0).bind fun v21 => (wrI M19 v20 (((20 : Int32) * v21) + v1.1) v6.1).bind fun M22 => some M22 else some M8) fun j23 => if v4.1 ≤ (23 : Int32) then j23 v4.1 else j23 (0 : Int32)
set_option maxRecDepth 100000 in
set_option maxHeartbeats 4000000 in
theorem C_X12_tellStay {n : Nat} {M : AM} {a0 : Nat} {o : AM} (h : F_X12_tellStay n M a0 = some o) : Cn yX12_tellStay cX12_tellStay 6 none 4 [.ref a0] M none o := by
  unfold F_X12_tellStay at h
  refine Cn.of rfl (Nat.le_of_ble_eq_true rfl) ?_
  show G yX12_tellStay cX12_tellStay 6 none 4 0 [(0, .ref a0)] [] M none o
  refine G.aload_n dX12_tellStay_0 rfl rfl ?_
  refine G.iconst (4 : Int32) dX12_tellStay_1 ki_4 ?_
  refine G.callVi (ci := 12) [.int (4 : Int32)] [] dX12_tellStay_2 lkX12_317 okX12_next rfl (fun v hv => C_X12_next hv) (Nat.le_of_ble_eq_true rfl) rfl rfl (Nat.le_of_ble_eq_true rfl) h (fun v1 h => ?_)
  refine G.istore_n (lv' := [(1, .int v1.1), (0, .ref a0)]) dX12_tellStay_5 rfl (Nat.le_of_ble_eq_true rfl) rfl ?_
  refine G.aload_n dX12_tellStay_6 rfl rfl ?_
  refine G.iconst (1 : Int32) dX12_tellStay_7 ki_1 ?_
  refine G.callVi (ci := 12) [.int (1 : Int32)] [] dX12_tellStay_8 lkX12_338 okX12_known rfl (fun v hv => C_X12_known hv) (Nat.le_of_ble_eq_true rfl) rfl rfl (Nat.le_of_ble_eq_true rfl) h (fun v2 h => ?_)
  refine G.istore_n (lv' := [(2, .int v2.1), (1, .int v1.1), (0, .ref a0)]) dX12_tellStay_11 rfl (Nat.le_of_ble_eq_true rfl) rfl ?_
  refine G.aload_n dX12_tellStay_12 rfl rfl ?_
  refine G.iconst (0 : Int32) dX12_tellStay_13 ki_0 ?_
  refine G.callVi (ci := 12) [.int (0 : Int32)] [] dX12_tellStay_14 lkX12_338 okX12_known rfl (fun v hv => C_X12_known hv) (Nat.le_of_ble_eq_true rfl) rfl rfl (Nat.le_of_ble_eq_true rfl) h (fun v3 h => ?_)
  refine G.istore_n (lv' := [(3, .int v3.1), (2, .int v2.1), (1, .int v1.1), (0, .ref a0)]) dX12_tellStay_17 rfl (Nat.le_of_ble_eq_true rfl) rfl ?_
  refine G.aload_n dX12_tellStay_18 rfl rfl ?_
  refine G.iconst (0 : Int32) dX12_tellStay_19 ki_0 ?_
  refine G.bipush (23 : Int32) dX12_tellStay_20 kb_23 ?_
  refine G.callVi (ci := 12) [.int (0 : Int32), .int (23 : Int32)] [] dX12_tellStay_22 lkX12_334 okX12_bounded rfl (fun v hv => C_X12_bounded hv) (Nat.le_of_ble_eq_true rfl) rfl rfl (Nat.le_of_ble_eq_true rfl) h (fun v4 h => ?_)
  refine G.istore (lv' := [(4, .int v4.1), (3, .int v3.1), (2, .int v2.1), (1, .int v1.1), (0, .ref a0)]) dX12_tellStay_25 (Nat.le_of_ble_eq_true rfl) rfl ?_
  refine G.aload_n dX12_tellStay_27 rfl rfl ?_
  refine G.iload dX12_tellStay_28 rfl ?_
  refine G.bipush (23 : Int32) dX12_tellStay_30 kb_23 ?_
  refine jn_elim (fun j23 => ∀ (u5 : Int32), j23 u5 = some o → G yX12_tellStay cX12_tellStay 6 none 4 41 [(0, .ref a0), (1, .int v1.1), (2, .int v2.1), (3, .int v3.1), (4, .int v4.1)] [.int u5, .ref a0] v4.2 none o) h ?_ ?_
  · intro u5 h
    refine G.bipush (23 : Int32) dX12_tellStay_41 kb_23 ?_
    refine G.callVi (ci := 12) [.int u5, .int (23 : Int32)] [] dX12_tellStay_43 lkX12_334 okX12_bounded rfl (fun v hv => C_X12_bounded hv) (Nat.le_of_ble_eq_true rfl) rfl rfl (Nat.le_of_ble_eq_true rfl) h (fun v6 h => ?_)
    refine G.istore (lv' := [(5, .int v6.1), (0, .ref a0), (1, .int v1.1), (2, .int v2.1), (3, .int v3.1), (4, .int v4.1)]) dX12_tellStay_46 (Nat.le_of_ble_eq_true rfl) rfl ?_
    refine G.aload_n dX12_tellStay_48 rfl rfl ?_
    refine G.iconst (4 : Int32) dX12_tellStay_49 ki_4 ?_
    refine G.callVv (ci := 12) [.int (4 : Int32)] [] dX12_tellStay_50 lkX12_324 okX12_comes rfl (fun v hv => C_X12_comes hv) (Nat.le_of_ble_eq_true rfl) rfl rfl (Nat.le_of_ble_eq_true rfl) h (fun M8 h => ?_)
    refine G.aload_n dX12_tellStay_53 rfl rfl ?_
    refine G.getI dX12_tellStay_54 fkX12_260 fr12_13 h (fun v9 h => ?_)
    refine G.if_le 61 dX12_tellStay_57 (by decide) h (fun c10 h => ?_) (fun c10 h => ?_)
    · refine G.aload_n dX12_tellStay_61 rfl rfl ?_
      refine G.getR dX12_tellStay_62 fkX12_70 fr12_31 h (fun v11 h => ?_)
      refine G.bipush (20 : Int32) dX12_tellStay_65 kb_20 ?_
      refine G.aload_n dX12_tellStay_67 rfl rfl ?_
      refine G.getI dX12_tellStay_68 fkX12_293 fr12_19 h (fun v12 h => ?_)
      refine G.imul dX12_tellStay_71 ?_
      refine G.iload_n dX12_tellStay_72 rfl rfl ?_
      refine G.iadd dX12_tellStay_73 ?_
      refine G.iload_n dX12_tellStay_74 rfl rfl ?_
      refine G.iast dX12_tellStay_75 h (fun M13 h => ?_)
      refine G.aload_n dX12_tellStay_76 rfl rfl ?_
      refine G.getR dX12_tellStay_77 fkX12_73 fr12_32 h (fun v14 h => ?_)
      refine G.bipush (20 : Int32) dX12_tellStay_80 kb_20 ?_
      refine G.aload_n dX12_tellStay_82 rfl rfl ?_
      refine G.getI dX12_tellStay_83 fkX12_293 fr12_19 h (fun v15 h => ?_)
      refine G.imul dX12_tellStay_86 ?_
      refine G.iload_n dX12_tellStay_87 rfl rfl ?_
      refine G.iadd dX12_tellStay_88 ?_
      refine G.iload_n dX12_tellStay_89 rfl rfl ?_
      refine G.iast dX12_tellStay_90 h (fun M16 h => ?_)
      refine G.aload_n dX12_tellStay_91 rfl rfl ?_
      refine G.getR dX12_tellStay_92 fkX12_76 fr12_33 h (fun v17 h => ?_)
      refine G.bipush (20 : Int32) dX12_tellStay_95 kb_20 ?_
      refine G.aload_n dX12_tellStay_97 rfl rfl ?_
      refine G.getI dX12_tellStay_98 fkX12_293 fr12_19 h (fun v18 h => ?_)
      refine G.imul dX12_tellStay_101 ?_
      refine G.iload_n dX12_tellStay_102 rfl rfl ?_
      refine G.iadd dX12_tellStay_103 ?_
      refine G.iload dX12_tellStay_104 rfl ?_
      refine G.iast dX12_tellStay_106 h (fun M19 h => ?_)
      refine G.aload_n dX12_tellStay_107 rfl rfl ?_
      refine G.getR dX12_tellStay_108 fkX12_79 fr12_34 h (fun v20 h => ?_)
      refine G.bipush (20 : Int32) dX12_tellStay_111 kb_20 ?_
      refine G.aload_n dX12_tellStay_113 rfl rfl ?_
      refine G.getI dX12_tellStay_114 fkX12_293 fr12_19 h (fun v21 h => ?_)
      refine G.imul dX12_tellStay_117 ?_
      refine G.iload_n dX12_tellStay_118 rfl rfl ?_
      refine G.iadd dX12_tellStay_119 ?_
      refine G.iload dX12_tellStay_120 rfl ?_
      refine G.iast dX12_tellStay_122 h (fun M22 h => ?_)
      exact G.vretW dX12_tellStay_123 rfl h
    · exact G.vretW dX12_tellStay_60 rfl h
  · intro j23 Jj23 h
    refine G.icmp_le 39 dX12_tellStay_32 (by decide) h (fun c24 h => ?_) (fun c24 h => ?_)
    · refine G.iload dX12_tellStay_39 rfl ?_
      refine G.sub (lv' := [(0, .ref a0), (1, .int v1.1), (2, .int v2.1), (3, .int v3.1), (4, .int v4.1)]) [4, 3, 2, 1, 0] rfl ?_
      exact Jj23 _ h
    · refine G.iconst (0 : Int32) dX12_tellStay_35 ki_0 ?_
      refine G.goto 41 dX12_tellStay_36 (by decide) ?_
      refine G.sub (lv' := [(0, .ref a0), (1, .int v1.1), (2, .int v2.1), (3, .int v3.1), (4, .int v4.1)]) [4, 3, 2, 1, 0] rfl ?_
      exact Jj23 _ h
-- OnlyUpwardModel.tellTask()V
set_option maxRecDepth 100000 in
set_option maxHeartbeats 4000000 in
def F_X12_tellTask (n : Nat) (M : AM) (a0 : Nat) : Option AM :=
  (rcv 12 M a0 (F_X12_goesOn n M a0)).bind fun M2 => (rcv 12 M2 a0 (F_X12_named n M2 a0)).bind fun v3 => (gI 12 13 v3.2 a0).bind fun v4 => jn (fun (u5 : Int32) => (iter (fun (s6 : Int32 × Int32 × AM) => if s6.2.1 = 0 then some (.inr (.inl (s6.1, s6.2.2))) else (gI 12 11 s6.2.2 a0).bind fun v8 => (rcv 12 s6.2.2 a0 (F_X12_known n s6.2.2 a0 (2 : Int32))).bind fun v9 => (gI 12 13 v9.2 a0).bind fun v10 => if v10 ≤ 0 then jn (fun (M12 : AM) => jn (fun (u13 : Int32) => (rcv 12 M12 a0 (F_X12_is n M12 a0 (5 : Int32))).bind fun v14 => jn (fun (M15 : AM) => jn (fun (u16 : Int32) => some (.inl (u13, u16, M15))) fun j17 => jn (j17 (0 : Int32)) fun j18 => if v14 = 0 then j18 else (gI 12 13 M15 a0).bind fun v20 => if v20 = 0 then j17 (1 : Int32) else j18) fun j22 => if v14 = 0 then j22 M12 else (rcv 12 M12 a0 (F_X12_goesOn n M12 a0)).bind fun M25 => j22 M25) fun j26 => if v9.1 = (-1 : Int32) then j26 s6.1 else j26 (s6.1 ||| ((1 : Int32) <<< (v9.1 &&& 31)))) fun j28 => if v9.1 = (-1 : Int32) then j28 v9.2 else if ((s6.1 >>> (v9.1 &&& 31)) &&& (1 : Int32)) = (1 : Int32) then (rcv 12 v9.2 a0 (F_X12_wrong n v9.2 a0 (3 : Int32) v8)).bind fun M32 => j28 M32 else j28 v9.2 else some (.inr (.inr v9.2))) n ((0 : Int32), u5, v3.2)).bind fun (z6 : (Int32 × AM) ⊕ AM) => Sum.elim (fun (e6 : Int32 × AM) => (rcv 12 e6.2 a0 (F_X12_must n e6.2 a0 (4 : Int32))).bind fun M34 => (gI 12 13 M34 a0).bind fun v35 => if v35 ≤ 0 then (gR 12 25 M34 a0).bind fun v37 => (gI 12 19 M34 a0).bind fun v38 => (rdI M34 v37 v38).bind fun v39 => (rcv 12 M34 a0 (F_X12_notes n M34 a0 v3.1 (3 : Int32) v39)).bind fun M41 => (gR 12 42 M41 a0).bind fun v42 => (gI 12 19 M41 a0).bind fun v43 => (gR 12 25 M41 a0).bind fun v44 => (gI 12 19 M41 a0).bind fun v45 => (rdI M41 v44 v45).bind fun v46 => (wrI M41 v42 (((4 : Int32) * v43) + v46) e6.1).bind fun M47 => (gR 12 25 M47 a0).bind fun v48 => (gI 12 19 M47 a0).bind fun v49 => (rdI M47 v48 v49).bind fun v50 => (wrI M47 v48 v49 (v50 + (1 : Int32))).bind fun M51 => some M51 else some M34) (fun (v : AM) => some v) z6) fun j52 => if v4 = 0 then j52 (1 : Int32) else j52 (0 : Int32)
set_option maxRecDepth 100000 in
set_option maxHeartbeats 4000000 in
theorem C_X12_tellTask {n : Nat} {M : AM} {a0 : Nat} {o : AM} (h : F_X12_tellTask n M a0 = some o) : Cn yX12_tellTask cX12_tellTask 6 none 4 [.ref a0] M none o := by
  unfold F_X12_tellTask at h
  refine Cn.of rfl (Nat.le_of_ble_eq_true rfl) ?_
  show G yX12_tellTask cX12_tellTask 6 none 4 0 [(0, .ref a0)] [] M none o
  refine G.aload_n dX12_tellTask_0 rfl rfl ?_
  refine G.callVv (ci := 12) [] [] dX12_tellTask_1 lkX12_281 okX12_goesOn rfl (fun v hv => C_X12_goesOn hv) (Nat.le_of_ble_eq_true rfl) rfl rfl (Nat.le_of_ble_eq_true rfl) h (fun M2 h => ?_)
  refine G.aload_n dX12_tellTask_4 rfl rfl ?_
  refine G.callVi (ci := 12) [] [] dX12_tellTask_5 lkX12_320 okX12_named rfl (fun v hv => C_X12_named hv) (Nat.le_of_ble_eq_true rfl) rfl rfl (Nat.le_of_ble_eq_true rfl) h (fun v3 h => ?_)
  refine G.istore_n (lv' := [(1, .int v3.1), (0, .ref a0)]) dX12_tellTask_8 rfl (Nat.le_of_ble_eq_true rfl) rfl ?_
  refine G.iconst (0 : Int32) dX12_tellTask_9 ki_0 ?_
  refine G.istore_n (lv' := [(2, .int (0 : Int32)), (1, .int v3.1), (0, .ref a0)]) dX12_tellTask_10 rfl (Nat.le_of_ble_eq_true rfl) rfl ?_
  refine G.aload_n dX12_tellTask_11 rfl rfl ?_
  refine G.getI dX12_tellTask_12 fkX12_260 fr12_13 h (fun v4 h => ?_)
  refine jn_elim (fun j52 => ∀ (u5 : Int32), j52 u5 = some o → G yX12_tellTask cX12_tellTask 6 none 4 23 [(0, .ref a0), (1, .int v3.1), (2, .int (0 : Int32))] [.int u5] v3.2 none o) h ?_ ?_
  · intro u5 h
    refine G.istore_n (lv' := [(3, .int u5), (0, .ref a0), (1, .int v3.1), (2, .int (0 : Int32))]) dX12_tellTask_23 rfl (Nat.le_of_ble_eq_true rfl) rfl ?_
    refine G.sub (lv' := [(0, .ref a0), (1, .int v3.1), (2, .int (0 : Int32)), (3, .int u5)]) [1, 2, 3, 0] rfl ?_
    refine loopE (fun (s6 : Int32 × Int32 × AM) => G yX12_tellTask cX12_tellTask 6 none 4 24 [(0, .ref a0), (1, .int v3.1), (2, .int s6.1), (3, .int s6.2.1)] [] s6.2.2 none o) (fun (z6 : (Int32 × AM) ⊕ AM) => Sum.elim (fun (e6 : Int32 × AM) => G yX12_tellTask cX12_tellTask 6 none 4 119 [(0, .ref a0), (1, .int v3.1), (2, .int e6.1)] [] e6.2 none o) (fun (v : AM) => some v = some o) z6) h ?_ ?_
    · intro z6 h
      rcases z6 with e6 | v
      · have h := sum_inl h
        show G yX12_tellTask cX12_tellTask 6 none 4 119 [(0, .ref a0), (1, .int v3.1), (2, .int e6.1)] [] e6.2 none o
        refine G.aload_n dX12_tellTask_119 rfl rfl ?_
        refine G.iconst (4 : Int32) dX12_tellTask_120 ki_4 ?_
        refine G.callVv (ci := 12) [.int (4 : Int32)] [] dX12_tellTask_121 lkX12_314 okX12_must rfl (fun v hv => C_X12_must hv) (Nat.le_of_ble_eq_true rfl) rfl rfl (Nat.le_of_ble_eq_true rfl) h (fun M34 h => ?_)
        refine G.aload_n dX12_tellTask_124 rfl rfl ?_
        refine G.getI dX12_tellTask_125 fkX12_260 fr12_13 h (fun v35 h => ?_)
        refine G.if_le 132 dX12_tellTask_128 (by decide) h (fun c36 h => ?_) (fun c36 h => ?_)
        · refine G.aload_n dX12_tellTask_132 rfl rfl ?_
          refine G.iload_n dX12_tellTask_133 rfl rfl ?_
          refine G.iconst (3 : Int32) dX12_tellTask_134 ki_3 ?_
          refine G.aload_n dX12_tellTask_135 rfl rfl ?_
          refine G.getR dX12_tellTask_136 fkX12_52 fr12_25 h (fun v37 h => ?_)
          refine G.aload_n dX12_tellTask_139 rfl rfl ?_
          refine G.getI dX12_tellTask_140 fkX12_293 fr12_19 h (fun v38 h => ?_)
          refine G.iald dX12_tellTask_143 h (fun v39 h => ?_)
          refine G.callVv (ci := 12) [.int v3.1, .int (3 : Int32), .int v39] [] dX12_tellTask_144 lkX12_327 okX12_notes rfl (fun v hv => C_X12_notes hv) (Nat.le_of_ble_eq_true rfl) rfl rfl (Nat.le_of_ble_eq_true rfl) h (fun M41 h => ?_)
          refine G.aload_n dX12_tellTask_147 rfl rfl ?_
          refine G.getR dX12_tellTask_148 fkX12_103 fr12_42 h (fun v42 h => ?_)
          refine G.iconst (4 : Int32) dX12_tellTask_151 ki_4 ?_
          refine G.aload_n dX12_tellTask_152 rfl rfl ?_
          refine G.getI dX12_tellTask_153 fkX12_293 fr12_19 h (fun v43 h => ?_)
          refine G.imul dX12_tellTask_156 ?_
          refine G.aload_n dX12_tellTask_157 rfl rfl ?_
          refine G.getR dX12_tellTask_158 fkX12_52 fr12_25 h (fun v44 h => ?_)
          refine G.aload_n dX12_tellTask_161 rfl rfl ?_
          refine G.getI dX12_tellTask_162 fkX12_293 fr12_19 h (fun v45 h => ?_)
          refine G.iald dX12_tellTask_165 h (fun v46 h => ?_)
          refine G.iadd dX12_tellTask_166 ?_
          refine G.iload_n dX12_tellTask_167 rfl rfl ?_
          refine G.iast dX12_tellTask_168 h (fun M47 h => ?_)
          refine G.aload_n dX12_tellTask_169 rfl rfl ?_
          refine G.getR dX12_tellTask_170 fkX12_52 fr12_25 h (fun v48 h => ?_)
          refine G.aload_n dX12_tellTask_173 rfl rfl ?_
          refine G.getI dX12_tellTask_174 fkX12_293 fr12_19 h (fun v49 h => ?_)
          refine G.dup2 dX12_tellTask_177 rfl rfl ?_
          refine G.iald dX12_tellTask_178 h (fun v50 h => ?_)
          refine G.iconst (1 : Int32) dX12_tellTask_179 ki_1 ?_
          refine G.iadd dX12_tellTask_180 ?_
          refine G.iast dX12_tellTask_181 h (fun M51 h => ?_)
          exact G.vretW dX12_tellTask_182 rfl h
        · exact G.vretW dX12_tellTask_131 rfl h
      · have h := sum_inr h
        exact h
    · intro s6 x6 h K6
      show G yX12_tellTask cX12_tellTask 6 none 4 24 [(0, .ref a0), (1, .int v3.1), (2, .int s6.1), (3, .int s6.2.1)] [] s6.2.2 none o
      refine G.iload_n dX12_tellTask_24 rfl rfl ?_
      refine G.if_eq 119 dX12_tellTask_25 (by decide) h (fun c7 h => ?_) (fun c7 h => ?_)
      · refine G.sub (lv' := [(0, .ref a0), (1, .int v3.1), (2, .int s6.1)]) [0, 1, 2] rfl ?_
        have h := leafR' h K6
        exact h
      · refine G.aload_n dX12_tellTask_28 rfl rfl ?_
        refine G.getI dX12_tellTask_29 fkX12_263 fr12_11 h (fun v8 h => ?_)
        refine G.istore (lv' := [(4, .int v8), (0, .ref a0), (1, .int v3.1), (2, .int s6.1), (3, .int s6.2.1)]) dX12_tellTask_32 (Nat.le_of_ble_eq_true rfl) rfl ?_
        refine G.aload_n dX12_tellTask_34 rfl rfl ?_
        refine G.iconst (2 : Int32) dX12_tellTask_35 ki_2 ?_
        refine G.callVi (ci := 12) [.int (2 : Int32)] [] dX12_tellTask_36 lkX12_338 okX12_known rfl (fun v hv => C_X12_known hv) (Nat.le_of_ble_eq_true rfl) rfl rfl (Nat.le_of_ble_eq_true rfl) h (fun v9 h => ?_)
        refine G.istore (lv' := [(5, .int v9.1), (4, .int v8), (0, .ref a0), (1, .int v3.1), (2, .int s6.1), (3, .int s6.2.1)]) dX12_tellTask_39 (Nat.le_of_ble_eq_true rfl) rfl ?_
        refine G.aload_n dX12_tellTask_41 rfl rfl ?_
        refine G.getI dX12_tellTask_42 fkX12_260 fr12_13 h (fun v10 h => ?_)
        refine G.if_le 49 dX12_tellTask_45 (by decide) h (fun c11 h => ?_) (fun c11 h => ?_)
        · refine G.iload dX12_tellTask_49 rfl ?_
          refine G.iconst (-1 : Int32) dX12_tellTask_51 ki_m1 ?_
          refine jn_elim (fun j28 => ∀ (M12 : AM), j28 M12 = some x6 → G yX12_tellTask cX12_tellTask 6 none 4 72 [(0, .ref a0), (1, .int v3.1), (2, .int s6.1), (5, .int v9.1)] [] M12 none o) h ?_ ?_
          · intro M12 h
            refine G.iload dX12_tellTask_72 rfl ?_
            refine G.iconst (-1 : Int32) dX12_tellTask_74 ki_m1 ?_
            refine jn_elim (fun j26 => ∀ (u13 : Int32), j26 u13 = some x6 → G yX12_tellTask cX12_tellTask 6 none 4 85 [(0, .ref a0), (1, .int v3.1), (2, .int u13)] [] M12 none o) h ?_ ?_
            · intro u13 h
              refine G.aload_n dX12_tellTask_85 rfl rfl ?_
              refine G.iconst (5 : Int32) dX12_tellTask_86 ki_5 ?_
              refine G.callVi (ci := 12) [.int (5 : Int32)] [] dX12_tellTask_87 lkX12_278 okX12_is rfl (fun v hv => C_X12_is hv) (Nat.le_of_ble_eq_true rfl) rfl rfl (Nat.le_of_ble_eq_true rfl) h (fun v14 h => ?_)
              refine G.istore_n (lv' := [(3, .int v14), (0, .ref a0), (1, .int v3.1), (2, .int u13)]) dX12_tellTask_90 rfl (Nat.le_of_ble_eq_true rfl) rfl ?_
              refine G.iload_n dX12_tellTask_91 rfl rfl ?_
              refine jn_elim (fun j22 => ∀ (M15 : AM), j22 M15 = some x6 → G yX12_tellTask cX12_tellTask 6 none 4 99 [(0, .ref a0), (1, .int v3.1), (2, .int u13), (3, .int v14)] [] M15 none o) h ?_ ?_
              · intro M15 h
                refine G.iload_n dX12_tellTask_99 rfl rfl ?_
                refine jn_elim (fun j17 => ∀ (u16 : Int32), j17 u16 = some x6 → G yX12_tellTask cX12_tellTask 6 none 4 115 [(0, .ref a0), (1, .int v3.1), (2, .int u13)] [.int u16] M15 none o) h ?_ ?_
                · intro u16 h
                  refine G.istore_n (lv' := [(3, .int u16), (0, .ref a0), (1, .int v3.1), (2, .int u13)]) dX12_tellTask_115 rfl (Nat.le_of_ble_eq_true rfl) rfl ?_
                  refine G.goto 24 dX12_tellTask_116 (by decide) ?_
                  refine G.sub (lv' := [(0, .ref a0), (1, .int v3.1), (2, .int u13), (3, .int u16)]) [1, 2, 3, 0] rfl ?_
                  have h := leafL' h K6
                  exact h
                · intro j17 Jj17 h
                  refine jn_elim (fun j18 => j18 = some x6 → G yX12_tellTask cX12_tellTask 6 none 4 114 [(0, .ref a0), (1, .int v3.1), (2, .int u13)] [] M15 none o) h ?_ ?_
                  · intro h
                    refine G.iconst (0 : Int32) dX12_tellTask_114 ki_0 ?_
                    refine G.sub (lv' := [(0, .ref a0), (1, .int v3.1), (2, .int u13)]) [0, 1, 2] rfl ?_
                    exact Jj17 _ h
                  · intro j18 Jj18 h
                    refine G.if_eq 114 dX12_tellTask_100 (by decide) h (fun c19 h => ?_) (fun c19 h => ?_)
                    · refine G.sub (lv' := [(0, .ref a0), (1, .int v3.1), (2, .int u13)]) [0, 1, 2] rfl ?_
                      exact Jj18  h
                    · refine G.aload_n dX12_tellTask_103 rfl rfl ?_
                      refine G.getI dX12_tellTask_104 fkX12_260 fr12_13 h (fun v20 h => ?_)
                      refine G.if_ne 114 dX12_tellTask_107 (by decide) h (fun c21 h => ?_) (fun c21 h => ?_)
                      · refine G.iconst (1 : Int32) dX12_tellTask_110 ki_1 ?_
                        refine G.goto 115 dX12_tellTask_111 (by decide) ?_
                        refine G.sub (lv' := [(0, .ref a0), (1, .int v3.1), (2, .int u13)]) [0, 1, 2] rfl ?_
                        exact Jj17 _ h
                      · refine G.sub (lv' := [(0, .ref a0), (1, .int v3.1), (2, .int u13)]) [0, 1, 2] rfl ?_
                        exact Jj18  h
              · intro j22 Jj22 h
                refine G.if_eq 99 dX12_tellTask_92 (by decide) h (fun c23 h => ?_) (fun c23 h => ?_)
                · refine G.sub (lv' := [(0, .ref a0), (1, .int v3.1), (2, .int u13), (3, .int v14)]) [1, 2, 3, 0] rfl ?_
                  exact Jj22 _ h
                · refine G.aload_n dX12_tellTask_95 rfl rfl ?_
                  refine G.callVv (ci := 12) [] [] dX12_tellTask_96 lkX12_281 okX12_goesOn rfl (fun v hv => C_X12_goesOn hv) (Nat.le_of_ble_eq_true rfl) rfl rfl (Nat.le_of_ble_eq_true rfl) h (fun M25 h => ?_)
                  refine G.sub (lv' := [(0, .ref a0), (1, .int v3.1), (2, .int u13), (3, .int v14)]) [1, 2, 3, 0] rfl ?_
                  exact Jj22 _ h
            · intro j26 Jj26 h
              refine G.icmp_eq 85 dX12_tellTask_75 (by decide) h (fun c27 h => ?_) (fun c27 h => ?_)
              · refine G.sub (lv' := [(0, .ref a0), (1, .int v3.1), (2, .int s6.1)]) [0, 1, 2] rfl ?_
                exact Jj26 _ h
              · refine G.iload_n dX12_tellTask_78 rfl rfl ?_
                refine G.iconst (1 : Int32) dX12_tellTask_79 ki_1 ?_
                refine G.iload dX12_tellTask_80 rfl ?_
                refine G.ishl dX12_tellTask_82 ?_
                refine G.ior dX12_tellTask_83 ?_
                refine G.istore_n (lv' := [(2, .int (s6.1 ||| ((1 : Int32) <<< (v9.1 &&& 31)))), (0, .ref a0), (1, .int v3.1), (5, .int v9.1)]) dX12_tellTask_84 rfl (Nat.le_of_ble_eq_true rfl) rfl ?_
                refine G.sub (lv' := [(0, .ref a0), (1, .int v3.1), (2, .int (s6.1 ||| ((1 : Int32) <<< (v9.1 &&& 31))))]) [1, 2, 0] rfl ?_
                exact Jj26 _ h
          · intro j28 Jj28 h
            refine G.icmp_eq 72 dX12_tellTask_52 (by decide) h (fun c29 h => ?_) (fun c29 h => ?_)
            · refine G.sub (lv' := [(0, .ref a0), (1, .int v3.1), (2, .int s6.1), (5, .int v9.1)]) [2, 3, 4, 0] rfl ?_
              exact Jj28 _ h
            · refine G.iload_n dX12_tellTask_55 rfl rfl ?_
              refine G.iload dX12_tellTask_56 rfl ?_
              refine G.ishr dX12_tellTask_58 ?_
              refine G.iconst (1 : Int32) dX12_tellTask_59 ki_1 ?_
              refine G.iand dX12_tellTask_60 ?_
              refine G.iconst (1 : Int32) dX12_tellTask_61 ki_1 ?_
              refine G.icmp_ne 72 dX12_tellTask_62 (by decide) h (fun c30 h => ?_) (fun c30 h => ?_)
              · refine G.aload_n dX12_tellTask_65 rfl rfl ?_
                refine G.iconst (3 : Int32) dX12_tellTask_66 ki_3 ?_
                refine G.iload dX12_tellTask_67 rfl ?_
                refine G.callVv (ci := 12) [.int (3 : Int32), .int v8] [] dX12_tellTask_69 lkX12_341 okX12_wrong rfl (fun v hv => C_X12_wrong hv) (Nat.le_of_ble_eq_true rfl) rfl rfl (Nat.le_of_ble_eq_true rfl) h (fun M32 h => ?_)
                refine G.sub (lv' := [(0, .ref a0), (1, .int v3.1), (2, .int s6.1), (5, .int v9.1)]) [2, 3, 4, 0] rfl ?_
                exact Jj28 _ h
              · refine G.sub (lv' := [(0, .ref a0), (1, .int v3.1), (2, .int s6.1), (5, .int v9.1)]) [2, 3, 4, 0] rfl ?_
                exact Jj28 _ h
        · have h := leafR' h K6
          exact G.vretW dX12_tellTask_48 rfl h
  · intro j52 Jj52 h
    refine G.if_ne 22 dX12_tellTask_15 (by decide) h (fun c53 h => ?_) (fun c53 h => ?_)
    · refine G.iconst (1 : Int32) dX12_tellTask_18 ki_1 ?_
      refine G.goto 23 dX12_tellTask_19 (by decide) ?_
      refine G.sub (lv' := [(0, .ref a0), (1, .int v3.1), (2, .int (0 : Int32))]) [2, 1, 0] rfl ?_
      exact Jj52 _ h
    · refine G.iconst (0 : Int32) dX12_tellTask_22 ki_0 ?_
      refine G.sub (lv' := [(0, .ref a0), (1, .int v3.1), (2, .int (0 : Int32))]) [2, 1, 0] rfl ?_
      exact Jj52 _ h
-- OnlyUpwardModel.emit(II)V
set_option maxRecDepth 100000 in
set_option maxHeartbeats 4000000 in
def F_X12_emit (n : Nat) (M : AM) (a0 : Nat) (a1 : Int32) (a2 : Int32) : Option AM :=
  (gR 12 54 M a0).bind fun v1 => (gI 12 53 M a0).bind fun v2 => (wrI M v1 v2 a1).bind fun M3 => (gR 12 55 M3 a0).bind fun v4 => (gI 12 53 M3 a0).bind fun v5 => (wrI M3 v4 v5 a2).bind fun M6 => (gI 12 53 M6 a0).bind fun v7 => (pI 12 53 M6 a0 (v7 + (1 : Int32))).bind fun M8 => some M8
set_option maxRecDepth 100000 in
set_option maxHeartbeats 4000000 in
theorem C_X12_emit {n : Nat} {M : AM} {a0 : Nat} {a1 : Int32} {a2 : Int32} {o : AM} (h : F_X12_emit n M a0 a1 a2 = some o) : Cn yX12_emit cX12_emit 3 none 0 [.ref a0, .int a1, .int a2] M none o := by
  unfold F_X12_emit at h
  refine Cn.of rfl (Nat.le_of_ble_eq_true rfl) ?_
  show G yX12_emit cX12_emit 3 none 0 0 [(0, .ref a0), (1, .int a1), (2, .int a2)] [] M none o
  refine G.aload_n dX12_emit_0 rfl rfl ?_
  refine G.getR dX12_emit_1 fkX12_134 fr12_54 h (fun v1 h => ?_)
  refine G.aload_n dX12_emit_4 rfl rfl ?_
  refine G.getI dX12_emit_5 fkX12_302 fr12_53 h (fun v2 h => ?_)
  refine G.iload_n dX12_emit_8 rfl rfl ?_
  refine G.iast dX12_emit_9 h (fun M3 h => ?_)
  refine G.aload_n dX12_emit_10 rfl rfl ?_
  refine G.getR dX12_emit_11 fkX12_137 fr12_55 h (fun v4 h => ?_)
  refine G.aload_n dX12_emit_14 rfl rfl ?_
  refine G.getI dX12_emit_15 fkX12_302 fr12_53 h (fun v5 h => ?_)
  refine G.iload_n dX12_emit_18 rfl rfl ?_
  refine G.iast dX12_emit_19 h (fun M6 h => ?_)
  refine G.aload_n dX12_emit_20 rfl rfl ?_
  refine G.dup dX12_emit_21 rfl ?_
  refine G.getI dX12_emit_22 fkX12_302 fr12_53 h (fun v7 h => ?_)
  refine G.iconst (1 : Int32) dX12_emit_25 ki_1 ?_
  refine G.iadd dX12_emit_26 ?_
  refine G.putI dX12_emit_27 fkX12_302 nf12_53 ft12_53 h (fun M8 h => ?_)
  exact G.vretW dX12_emit_30 rfl h
