-- OnlyUpwardModel.goes()V
set_option maxRecDepth 100000 in
set_option maxHeartbeats 4000000 in
def F_X12_goes (n : Nat) (M : AM) (a0 : Nat) : Option AM :=
  (rcv 12 M a0 (F_X12_startsKnowing n M a0)).bind fun M2 => (pI 12 61 M2 a0 (0 : Int32)).bind fun M3 => (iter (fun (s4 : Int32 × AM) => if (600 : Int32) ≤ s4.1 then some (.inr s4.2) else (gR 12 70 s4.2 a0).bind fun v6 => (wrI s4.2 v6 s4.1 (99 : Int32)).bind fun M7 => some (.inl ((s4.1 + (1 : Int32)), M7))) n ((0 : Int32), M3)).bind fun (e4 : AM) => (iter (fun (s8 : Int32 × AM) => if (6 : Int32) ≤ s8.1 then some (.inr s8.2) else (gR 12 71 s8.2 a0).bind fun v10 => (wrI s8.2 v10 s8.1 (0 : Int32)).bind fun M11 => some (.inl ((s8.1 + (1 : Int32)), M11))) n ((0 : Int32), e4)).bind fun (e8 : AM) => (iter (fun (s12 : Int32 × AM) => if (24 : Int32) ≤ s12.1 then some (.inr s12.2) else (iter (fun (s14 : Int32 × AM) => (rcv 12 s14.2 a0 (F_X12_has n s14.2 a0 (1 : Int32))).bind fun v15 => if v15 ≤ s14.1 then some (.inr s14.2) else (gI 12 73 s14.2 a0).bind fun v17 => jn (fun (M18 : AM) => (gR 12 68 M18 a0).bind fun v19 => (rdI M18 v19 ((((10 : Int32) * s12.1) + (10 : Int32)) + s14.1)).bind fun v20 => (gR 12 68 M18 a0).bind fun v21 => (rdI M18 v21 (((10 : Int32) * s12.1) + s14.1)).bind fun v22 => (wrI M18 v19 ((((10 : Int32) * s12.1) + (10 : Int32)) + s14.1) (v20 ||| v22)).bind fun M23 => some (.inl ((s14.1 + (1 : Int32)), M23))) fun j24 => if v17 = (-1 : Int32) then j24 s14.2 else if s12.1 ≤ 0 then j24 s14.2 else (rcv 12 s14.2 a0 (F_X12_isDead n s14.2 a0 s14.1)).bind fun v27 => if v27 = 0 then (gI 12 72 s14.2 a0).bind fun v29 => (F_X12_lot n s14.2 v29 (((100 : Int32) * s12.1) + s14.1) (100 : Int32)).bind fun v30 => (gI 12 73 s14.2 a0).bind fun v31 => if v31 ≤ v30 then j24 s14.2 else (gI 12 61 s14.2 a0).bind fun v33 => (pI 12 61 s14.2 a0 (v33 ||| ((1 : Int32) <<< (s14.1 &&& 31)))).bind fun M34 => j24 M34 else j24 s14.2) n ((0 : Int32), s12.2)).bind fun (e14 : AM) => (iter (fun (s35 : Int32 × AM) => (rcv 12 s35.2 a0 (F_X12_has n s35.2 a0 (0 : Int32))).bind fun v36 => if v36 ≤ s35.1 then some (.inr s35.2) else (rcv 12 s35.2 a0 (F_X12_crowdAt n s35.2 a0 s35.1 s12.1)).bind fun v38 => (gR 12 71 s35.2 a0).bind fun v39 => (rdI s35.2 v39 s35.1).bind fun v40 => (rcv 12 s35.2 a0 (F_X12_learn n s35.2 a0 v38 s12.1 (v40 &&& (63 : Int32)))).bind fun M42 => some (.inl ((s35.1 + (1 : Int32)), M42))) n ((0 : Int32), e14)).bind fun (e35 : AM) => (iter (fun (s43 : Int32 × AM) => (gI 12 62 s43.2 a0).bind fun v44 => if v44 ≤ s43.1 then some (.inr s43.2) else (gR 12 64 s43.2 a0).bind fun v46 => (rdI s43.2 v46 s43.1).bind fun v47 => jn (fun (M48 : AM) => some (.inl ((s43.1 + (1 : Int32)), M48))) fun j49 => if v47 = s12.1 then (gR 12 69 s43.2 a0).bind fun v51 => (rcv 12 s43.2 a0 (F_X12_whyNot n s43.2 a0 s43.1)).bind fun v52 => (wrI v52.2 v51 s43.1 v52.1).bind fun M53 => (gR 12 69 M53 a0).bind fun v54 => (rdI M53 v54 s43.1).bind fun v55 => if v55 = 0 then (rcv 12 M53 a0 (F_X12_does n M53 a0 s43.1)).bind fun M58 => j49 M58 else j49 M53 else j49 s43.2) n ((0 : Int32), e35)).bind fun (e43 : AM) => (iter (fun (s59 : Int32 × AM) => if (6 : Int32) ≤ s59.1 then some (.inr s59.2) else (gR 12 71 s59.2 a0).bind fun v61 => (rdI s59.2 v61 s59.1).bind fun v62 => (gR 12 71 s59.2 a0).bind fun v63 => (rdI s59.2 v63 s59.1).bind fun v64 => (wrI s59.2 v61 s59.1 (v62 ||| (v64 >>> ((6 : Int32) &&& 31)))).bind fun M65 => some (.inl ((s59.1 + (1 : Int32)), M65))) n ((0 : Int32), e43)).bind fun (e59 : AM) => some (.inl ((s12.1 + (1 : Int32)), e59))) n ((0 : Int32), e8)).bind fun (e12 : AM) => some e12
set_option maxRecDepth 100000 in
set_option maxHeartbeats 4000000 in
theorem C_X12_goes {n : Nat} {M : AM} {a0 : Nat} {o : AM} (h : F_X12_goes n M a0 = some o) : Cn yX12_goes cX12_goes 3 none 5 [.ref a0] M none o := by
  unfold F_X12_goes at h
  refine Cn.of rfl (Nat.le_of_ble_eq_true rfl) ?_
  show G yX12_goes cX12_goes 3 none 5 0 [(0, .ref a0)] [] M none o
  refine G.aload_n dX12_goes_0 rfl rfl ?_
  refine G.callVv (ci := 12) [] [] dX12_goes_1 lkX12_454 okX12_startsKnowing rfl (fun v hv => C_X12_startsKnowing hv) (Nat.le_of_ble_eq_true rfl) rfl rfl (Nat.le_of_ble_eq_true rfl) h (fun M2 h => ?_)
  refine G.aload_n dX12_goes_4 rfl rfl ?_
  refine G.iconst (0 : Int32) dX12_goes_5 ki_0 ?_
  refine G.putI dX12_goes_6 fkX12_390 nf12_61 ft12_61 h (fun M3 h => ?_)
  refine G.iconst (0 : Int32) dX12_goes_9 ki_0 ?_
  refine G.istore_n (lv' := [(1, .int (0 : Int32)), (0, .ref a0)]) dX12_goes_10 rfl (Nat.le_of_ble_eq_true rfl) rfl ?_
  refine G.sub (lv' := [(0, .ref a0), (1, .int (0 : Int32))]) [1, 0] rfl ?_
  refine loopE (fun (s4 : Int32 × AM) => G yX12_goes cX12_goes 3 none 5 11 [(0, .ref a0), (1, .int s4.1)] [] s4.2 none o) (fun (e4 : AM) => G yX12_goes cX12_goes 3 none 5 32 [(0, .ref a0)] [] e4 none o) h ?_ ?_
  · intro e4 h
    show G yX12_goes cX12_goes 3 none 5 32 [(0, .ref a0)] [] e4 none o
    refine G.iconst (0 : Int32) dX12_goes_32 ki_0 ?_
    refine G.istore_n (lv' := [(1, .int (0 : Int32)), (0, .ref a0)]) dX12_goes_33 rfl (Nat.le_of_ble_eq_true rfl) rfl ?_
    refine G.sub (lv' := [(0, .ref a0), (1, .int (0 : Int32))]) [1, 0] rfl ?_
    refine loopE (fun (s8 : Int32 × AM) => G yX12_goes cX12_goes 3 none 5 34 [(0, .ref a0), (1, .int s8.1)] [] s8.2 none o) (fun (e8 : AM) => G yX12_goes cX12_goes 3 none 5 53 [(0, .ref a0)] [] e8 none o) h ?_ ?_
    · intro e8 h
      show G yX12_goes cX12_goes 3 none 5 53 [(0, .ref a0)] [] e8 none o
      refine G.iconst (0 : Int32) dX12_goes_53 ki_0 ?_
      refine G.istore_n (lv' := [(1, .int (0 : Int32)), (0, .ref a0)]) dX12_goes_54 rfl (Nat.le_of_ble_eq_true rfl) rfl ?_
      refine G.sub (lv' := [(0, .ref a0), (1, .int (0 : Int32))]) [1, 0] rfl ?_
      refine loopE (fun (s12 : Int32 × AM) => G yX12_goes cX12_goes 3 none 5 55 [(0, .ref a0), (1, .int s12.1)] [] s12.2 none o) (fun (e12 : AM) => G yX12_goes cX12_goes 3 none 5 289 [] [] e12 none o) h ?_ ?_
      · intro e12 h
        show G yX12_goes cX12_goes 3 none 5 289 [] [] e12 none o
        exact G.vretW dX12_goes_289 rfl h
      · intro s12 x12 h K12
        show G yX12_goes cX12_goes 3 none 5 55 [(0, .ref a0), (1, .int s12.1)] [] s12.2 none o
        refine G.iload_n dX12_goes_55 rfl rfl ?_
        refine G.bipush (24 : Int32) dX12_goes_56 kb_24 ?_
        refine G.icmp_ge 289 dX12_goes_58 (by decide) h (fun c13 h => ?_) (fun c13 h => ?_)
        · refine G.sub (lv' := []) [] rfl ?_
          have h := leafR' h K12
          exact h
        · refine G.iconst (0 : Int32) dX12_goes_61 ki_0 ?_
          refine G.istore_n (lv' := [(2, .int (0 : Int32)), (0, .ref a0), (1, .int s12.1)]) dX12_goes_62 rfl (Nat.le_of_ble_eq_true rfl) rfl ?_
          refine G.sub (lv' := [(0, .ref a0), (1, .int s12.1), (2, .int (0 : Int32))]) [1, 2, 0] rfl ?_
          refine loopE (fun (s14 : Int32 × AM) => G yX12_goes cX12_goes 3 none 5 63 [(0, .ref a0), (1, .int s12.1), (2, .int s14.1)] [] s14.2 none o) (fun (e14 : AM) => G yX12_goes cX12_goes 3 none 5 160 [(0, .ref a0), (1, .int s12.1)] [] e14 none o) h ?_ ?_
          · intro e14 h
            show G yX12_goes cX12_goes 3 none 5 160 [(0, .ref a0), (1, .int s12.1)] [] e14 none o
            refine G.iconst (0 : Int32) dX12_goes_160 ki_0 ?_
            refine G.istore_n (lv' := [(2, .int (0 : Int32)), (0, .ref a0), (1, .int s12.1)]) dX12_goes_161 rfl (Nat.le_of_ble_eq_true rfl) rfl ?_
            refine G.sub (lv' := [(0, .ref a0), (1, .int s12.1), (2, .int (0 : Int32))]) [1, 2, 0] rfl ?_
            refine loopE (fun (s35 : Int32 × AM) => G yX12_goes cX12_goes 3 none 5 162 [(0, .ref a0), (1, .int s12.1), (2, .int s35.1)] [] s35.2 none o) (fun (e35 : AM) => G yX12_goes cX12_goes 3 none 5 197 [(0, .ref a0), (1, .int s12.1)] [] e35 none o) h ?_ ?_
            · intro e35 h
              show G yX12_goes cX12_goes 3 none 5 197 [(0, .ref a0), (1, .int s12.1)] [] e35 none o
              refine G.iconst (0 : Int32) dX12_goes_197 ki_0 ?_
              refine G.istore_n (lv' := [(2, .int (0 : Int32)), (0, .ref a0), (1, .int s12.1)]) dX12_goes_198 rfl (Nat.le_of_ble_eq_true rfl) rfl ?_
              refine G.sub (lv' := [(0, .ref a0), (1, .int s12.1), (2, .int (0 : Int32))]) [1, 2, 0] rfl ?_
              refine loopE (fun (s43 : Int32 × AM) => G yX12_goes cX12_goes 3 none 5 199 [(0, .ref a0), (1, .int s12.1), (2, .int s43.1)] [] s43.2 none o) (fun (e43 : AM) => G yX12_goes cX12_goes 3 none 5 251 [(0, .ref a0), (1, .int s12.1)] [] e43 none o) h ?_ ?_
              · intro e43 h
                show G yX12_goes cX12_goes 3 none 5 251 [(0, .ref a0), (1, .int s12.1)] [] e43 none o
                refine G.iconst (0 : Int32) dX12_goes_251 ki_0 ?_
                refine G.istore_n (lv' := [(2, .int (0 : Int32)), (0, .ref a0), (1, .int s12.1)]) dX12_goes_252 rfl (Nat.le_of_ble_eq_true rfl) rfl ?_
                refine G.sub (lv' := [(0, .ref a0), (1, .int s12.1), (2, .int (0 : Int32))]) [1, 2, 0] rfl ?_
                refine loopE (fun (s59 : Int32 × AM) => G yX12_goes cX12_goes 3 none 5 253 [(0, .ref a0), (1, .int s12.1), (2, .int s59.1)] [] s59.2 none o) (fun (e59 : AM) => G yX12_goes cX12_goes 3 none 5 283 [(0, .ref a0), (1, .int s12.1)] [] e59 none o) h ?_ ?_
                · intro e59 h
                  show G yX12_goes cX12_goes 3 none 5 283 [(0, .ref a0), (1, .int s12.1)] [] e59 none o
                  refine G.iinc s12.1 (w := (s12.1 + (1 : Int32))) (lv' := [(1, .int (s12.1 + (1 : Int32))), (0, .ref a0)]) dX12_goes_283 rfl rfl (Nat.le_of_ble_eq_true rfl) rfl ?_
                  refine G.goto 55 dX12_goes_286 (by decide) ?_
                  refine G.sub (lv' := [(0, .ref a0), (1, .int (s12.1 + (1 : Int32)))]) [1, 0] rfl ?_
                  have h := leafL' h K12
                  exact h
                · intro s59 x59 h K59
                  show G yX12_goes cX12_goes 3 none 5 253 [(0, .ref a0), (1, .int s12.1), (2, .int s59.1)] [] s59.2 none o
                  refine G.iload_n dX12_goes_253 rfl rfl ?_
                  refine G.bipush (6 : Int32) dX12_goes_254 kb_6 ?_
                  refine G.icmp_ge 283 dX12_goes_256 (by decide) h (fun c60 h => ?_) (fun c60 h => ?_)
                  · refine G.sub (lv' := [(0, .ref a0), (1, .int s12.1)]) [0, 1] rfl ?_
                    have h := leafR' h K59
                    exact h
                  · refine G.aload_n dX12_goes_259 rfl rfl ?_
                    refine G.getR dX12_goes_260 fkX12_173 fr12_71 h (fun v61 h => ?_)
                    refine G.iload_n dX12_goes_263 rfl rfl ?_
                    refine G.dup2 dX12_goes_264 rfl rfl ?_
                    refine G.iald dX12_goes_265 h (fun v62 h => ?_)
                    refine G.aload_n dX12_goes_266 rfl rfl ?_
                    refine G.getR dX12_goes_267 fkX12_173 fr12_71 h (fun v63 h => ?_)
                    refine G.iload_n dX12_goes_270 rfl rfl ?_
                    refine G.iald dX12_goes_271 h (fun v64 h => ?_)
                    refine G.bipush (6 : Int32) dX12_goes_272 kb_6 ?_
                    refine G.ishr dX12_goes_274 ?_
                    refine G.ior dX12_goes_275 ?_
                    refine G.iast dX12_goes_276 h (fun M65 h => ?_)
                    refine G.iinc s59.1 (w := (s59.1 + (1 : Int32))) (lv' := [(2, .int (s59.1 + (1 : Int32))), (0, .ref a0), (1, .int s12.1)]) dX12_goes_277 rfl rfl (Nat.le_of_ble_eq_true rfl) rfl ?_
                    refine G.goto 253 dX12_goes_280 (by decide) ?_
                    refine G.sub (lv' := [(0, .ref a0), (1, .int s12.1), (2, .int (s59.1 + (1 : Int32)))]) [1, 2, 0] rfl ?_
                    have h := leafL' h K59
                    exact h
              · intro s43 x43 h K43
                show G yX12_goes cX12_goes 3 none 5 199 [(0, .ref a0), (1, .int s12.1), (2, .int s43.1)] [] s43.2 none o
                refine G.iload_n dX12_goes_199 rfl rfl ?_
                refine G.aload_n dX12_goes_200 rfl rfl ?_
                refine G.getI dX12_goes_201 fkX12_308 fr12_62 h (fun v44 h => ?_)
                refine G.icmp_ge 251 dX12_goes_204 (by decide) h (fun c45 h => ?_) (fun c45 h => ?_)
                · refine G.sub (lv' := [(0, .ref a0), (1, .int s12.1)]) [0, 1] rfl ?_
                  have h := leafR' h K43
                  exact h
                · refine G.aload_n dX12_goes_207 rfl rfl ?_
                  refine G.getR dX12_goes_208 fkX12_152 fr12_64 h (fun v46 h => ?_)
                  refine G.iload_n dX12_goes_211 rfl rfl ?_
                  refine G.iald dX12_goes_212 h (fun v47 h => ?_)
                  refine G.iload_n dX12_goes_213 rfl rfl ?_
                  refine jn_elim (fun j49 => ∀ (M48 : AM), j49 M48 = some x43 → G yX12_goes cX12_goes 3 none 5 245 [(0, .ref a0), (1, .int s12.1), (2, .int s43.1)] [] M48 none o) h ?_ ?_
                  · intro M48 h
                    refine G.iinc s43.1 (w := (s43.1 + (1 : Int32))) (lv' := [(2, .int (s43.1 + (1 : Int32))), (0, .ref a0), (1, .int s12.1)]) dX12_goes_245 rfl rfl (Nat.le_of_ble_eq_true rfl) rfl ?_
                    refine G.goto 199 dX12_goes_248 (by decide) ?_
                    refine G.sub (lv' := [(0, .ref a0), (1, .int s12.1), (2, .int (s43.1 + (1 : Int32)))]) [1, 2, 0] rfl ?_
                    have h := leafL' h K43
                    exact h
                  · intro j49 Jj49 h
                    refine G.icmp_eq 220 dX12_goes_214 (by decide) h (fun c50 h => ?_) (fun c50 h => ?_)
                    · refine G.aload_n dX12_goes_220 rfl rfl ?_
                      refine G.getR dX12_goes_221 fkX12_167 fr12_69 h (fun v51 h => ?_)
                      refine G.iload_n dX12_goes_224 rfl rfl ?_
                      refine G.aload_n dX12_goes_225 rfl rfl ?_
                      refine G.iload_n dX12_goes_226 rfl rfl ?_
                      refine G.callVi (ci := 12) [.int s43.1] [.int s43.1, .ref v51] dX12_goes_227 lkX12_463 okX12_whyNot rfl (fun v hv => C_X12_whyNot hv) (Nat.le_of_ble_eq_true rfl) rfl rfl (Nat.le_of_ble_eq_true rfl) h (fun v52 h => ?_)
                      refine G.iast dX12_goes_230 h (fun M53 h => ?_)
                      refine G.aload_n dX12_goes_231 rfl rfl ?_
                      refine G.getR dX12_goes_232 fkX12_167 fr12_69 h (fun v54 h => ?_)
                      refine G.iload_n dX12_goes_235 rfl rfl ?_
                      refine G.iald dX12_goes_236 h (fun v55 h => ?_)
                      refine G.if_ne 245 dX12_goes_237 (by decide) h (fun c56 h => ?_) (fun c56 h => ?_)
                      · refine G.aload_n dX12_goes_240 rfl rfl ?_
                        refine G.iload_n dX12_goes_241 rfl rfl ?_
                        refine G.callVv (ci := 12) [.int s43.1] [] dX12_goes_242 lkX12_466 okX12_does rfl (fun v hv => C_X12_does hv) (Nat.le_of_ble_eq_true rfl) rfl rfl (Nat.le_of_ble_eq_true rfl) h (fun M58 h => ?_)
                        refine G.sub (lv' := [(0, .ref a0), (1, .int s12.1), (2, .int s43.1)]) [0, 1, 2] rfl ?_
                        exact Jj49 _ h
                      · refine G.sub (lv' := [(0, .ref a0), (1, .int s12.1), (2, .int s43.1)]) [0, 1, 2] rfl ?_
                        exact Jj49 _ h
                    · refine G.goto 245 dX12_goes_217 (by decide) ?_
                      refine G.sub (lv' := [(0, .ref a0), (1, .int s12.1), (2, .int s43.1)]) [0, 1, 2] rfl ?_
                      exact Jj49 _ h
            · intro s35 x35 h K35
              show G yX12_goes cX12_goes 3 none 5 162 [(0, .ref a0), (1, .int s12.1), (2, .int s35.1)] [] s35.2 none o
              refine G.iload_n dX12_goes_162 rfl rfl ?_
              refine G.aload_n dX12_goes_163 rfl rfl ?_
              refine G.iconst (0 : Int32) dX12_goes_164 ki_0 ?_
              refine G.callVi (ci := 12) [.int (0 : Int32)] [.int s35.1] dX12_goes_165 lkX12_383 okX12_has rfl (fun v hv => C_X12_has hv) (Nat.le_of_ble_eq_true rfl) rfl rfl (Nat.le_of_ble_eq_true rfl) h (fun v36 h => ?_)
              refine G.icmp_ge 197 dX12_goes_168 (by decide) h (fun c37 h => ?_) (fun c37 h => ?_)
              · refine G.sub (lv' := [(0, .ref a0), (1, .int s12.1)]) [0, 1] rfl ?_
                have h := leafR' h K35
                exact h
              · refine G.aload_n dX12_goes_171 rfl rfl ?_
                refine G.aload_n dX12_goes_172 rfl rfl ?_
                refine G.iload_n dX12_goes_173 rfl rfl ?_
                refine G.iload_n dX12_goes_174 rfl rfl ?_
                refine G.callVi (ci := 12) [.int s35.1, .int s12.1] [.ref a0] dX12_goes_175 lkX12_406 okX12_crowdAt rfl (fun v hv => C_X12_crowdAt hv) (Nat.le_of_ble_eq_true rfl) rfl rfl (Nat.le_of_ble_eq_true rfl) h (fun v38 h => ?_)
                refine G.iload_n dX12_goes_178 rfl rfl ?_
                refine G.aload_n dX12_goes_179 rfl rfl ?_
                refine G.getR dX12_goes_180 fkX12_173 fr12_71 h (fun v39 h => ?_)
                refine G.iload_n dX12_goes_183 rfl rfl ?_
                refine G.iald dX12_goes_184 h (fun v40 h => ?_)
                refine G.bipush (63 : Int32) dX12_goes_185 kb_63 ?_
                refine G.iand dX12_goes_187 ?_
                refine G.callVv (ci := 12) [.int v38, .int s12.1, .int (v40 &&& (63 : Int32))] [] dX12_goes_188 lkX12_447 okX12_learn rfl (fun v hv => C_X12_learn hv) (Nat.le_of_ble_eq_true rfl) rfl rfl (Nat.le_of_ble_eq_true rfl) h (fun M42 h => ?_)
                refine G.iinc s35.1 (w := (s35.1 + (1 : Int32))) (lv' := [(2, .int (s35.1 + (1 : Int32))), (0, .ref a0), (1, .int s12.1)]) dX12_goes_191 rfl rfl (Nat.le_of_ble_eq_true rfl) rfl ?_
                refine G.goto 162 dX12_goes_194 (by decide) ?_
                refine G.sub (lv' := [(0, .ref a0), (1, .int s12.1), (2, .int (s35.1 + (1 : Int32)))]) [1, 2, 0] rfl ?_
                have h := leafL' h K35
                exact h
          · intro s14 x14 h K14
            show G yX12_goes cX12_goes 3 none 5 63 [(0, .ref a0), (1, .int s12.1), (2, .int s14.1)] [] s14.2 none o
            refine G.iload_n dX12_goes_63 rfl rfl ?_
            refine G.aload_n dX12_goes_64 rfl rfl ?_
            refine G.iconst (1 : Int32) dX12_goes_65 ki_1 ?_
            refine G.callVi (ci := 12) [.int (1 : Int32)] [.int s14.1] dX12_goes_66 lkX12_383 okX12_has rfl (fun v hv => C_X12_has hv) (Nat.le_of_ble_eq_true rfl) rfl rfl (Nat.le_of_ble_eq_true rfl) h (fun v15 h => ?_)
            refine G.icmp_ge 160 dX12_goes_69 (by decide) h (fun c16 h => ?_) (fun c16 h => ?_)
            · refine G.sub (lv' := [(0, .ref a0), (1, .int s12.1)]) [0, 1] rfl ?_
              have h := leafR' h K14
              exact h
            · refine G.aload_n dX12_goes_72 rfl rfl ?_
              refine G.getI dX12_goes_73 fkX12_176 fr12_73 h (fun v17 h => ?_)
              refine G.iconst (-1 : Int32) dX12_goes_76 ki_m1 ?_
              refine jn_elim (fun j24 => ∀ (M18 : AM), j24 M18 = some x14 → G yX12_goes cX12_goes 3 none 5 126 [(0, .ref a0), (1, .int s12.1), (2, .int s14.1)] [] M18 none o) h ?_ ?_
              · intro M18 h
                refine G.aload_n dX12_goes_126 rfl rfl ?_
                refine G.getR dX12_goes_127 fkX12_164 fr12_68 h (fun v19 h => ?_)
                refine G.bipush (10 : Int32) dX12_goes_130 kb_10 ?_
                refine G.iload_n dX12_goes_132 rfl rfl ?_
                refine G.imul dX12_goes_133 ?_
                refine G.bipush (10 : Int32) dX12_goes_134 kb_10 ?_
                refine G.iadd dX12_goes_136 ?_
                refine G.iload_n dX12_goes_137 rfl rfl ?_
                refine G.iadd dX12_goes_138 ?_
                refine G.dup2 dX12_goes_139 rfl rfl ?_
                refine G.iald dX12_goes_140 h (fun v20 h => ?_)
                refine G.aload_n dX12_goes_141 rfl rfl ?_
                refine G.getR dX12_goes_142 fkX12_164 fr12_68 h (fun v21 h => ?_)
                refine G.bipush (10 : Int32) dX12_goes_145 kb_10 ?_
                refine G.iload_n dX12_goes_147 rfl rfl ?_
                refine G.imul dX12_goes_148 ?_
                refine G.iload_n dX12_goes_149 rfl rfl ?_
                refine G.iadd dX12_goes_150 ?_
                refine G.iald dX12_goes_151 h (fun v22 h => ?_)
                refine G.ior dX12_goes_152 ?_
                refine G.iast dX12_goes_153 h (fun M23 h => ?_)
                refine G.iinc s14.1 (w := (s14.1 + (1 : Int32))) (lv' := [(2, .int (s14.1 + (1 : Int32))), (0, .ref a0), (1, .int s12.1)]) dX12_goes_154 rfl rfl (Nat.le_of_ble_eq_true rfl) rfl ?_
                refine G.goto 63 dX12_goes_157 (by decide) ?_
                refine G.sub (lv' := [(0, .ref a0), (1, .int s12.1), (2, .int (s14.1 + (1 : Int32)))]) [1, 2, 0] rfl ?_
                have h := leafL' h K14
                exact h
              · intro j24 Jj24 h
                refine G.icmp_eq 126 dX12_goes_77 (by decide) h (fun c25 h => ?_) (fun c25 h => ?_)
                · refine G.sub (lv' := [(0, .ref a0), (1, .int s12.1), (2, .int s14.1)]) [0, 1, 2] rfl ?_
                  exact Jj24 _ h
                · refine G.iload_n dX12_goes_80 rfl rfl ?_
                  refine G.if_le 126 dX12_goes_81 (by decide) h (fun c26 h => ?_) (fun c26 h => ?_)
                  · refine G.sub (lv' := [(0, .ref a0), (1, .int s12.1), (2, .int s14.1)]) [0, 1, 2] rfl ?_
                    exact Jj24 _ h
                  · refine G.aload_n dX12_goes_84 rfl rfl ?_
                    refine G.iload_n dX12_goes_85 rfl rfl ?_
                    refine G.callVi (ci := 12) [.int s14.1] [] dX12_goes_86 lkX12_393 okX12_isDead rfl (fun v hv => C_X12_isDead hv) (Nat.le_of_ble_eq_true rfl) rfl rfl (Nat.le_of_ble_eq_true rfl) h (fun v27 h => ?_)
                    refine G.if_ne 126 dX12_goes_89 (by decide) h (fun c28 h => ?_) (fun c28 h => ?_)
                    · refine G.aload_n dX12_goes_92 rfl rfl ?_
                      refine G.getI dX12_goes_93 fkX12_457 fr12_72 h (fun v29 h => ?_)
                      refine G.bipush (100 : Int32) dX12_goes_96 kb_100 ?_
                      refine G.iload_n dX12_goes_98 rfl rfl ?_
                      refine G.imul dX12_goes_99 ?_
                      refine G.iload_n dX12_goes_100 rfl rfl ?_
                      refine G.iadd dX12_goes_101 ?_
                      refine G.bipush (100 : Int32) dX12_goes_102 kb_100 ?_
                      refine G.callSi [.int v29, .int (((100 : Int32) * s12.1) + s14.1), .int (100 : Int32)] [] dX12_goes_104 lkX12_460 okX12_lot (fun v hv => C_X12_lot hv) (Nat.le_of_ble_eq_true rfl) rfl rfl (Nat.le_of_ble_eq_true rfl) h (fun v30 h => ?_)
                      refine G.aload_n dX12_goes_107 rfl rfl ?_
                      refine G.getI dX12_goes_108 fkX12_176 fr12_73 h (fun v31 h => ?_)
                      refine G.icmp_ge 126 dX12_goes_111 (by decide) h (fun c32 h => ?_) (fun c32 h => ?_)
                      · refine G.sub (lv' := [(0, .ref a0), (1, .int s12.1), (2, .int s14.1)]) [0, 1, 2] rfl ?_
                        exact Jj24 _ h
                      · refine G.aload_n dX12_goes_114 rfl rfl ?_
                        refine G.dup dX12_goes_115 rfl ?_
                        refine G.getI dX12_goes_116 fkX12_390 fr12_61 h (fun v33 h => ?_)
                        refine G.iconst (1 : Int32) dX12_goes_119 ki_1 ?_
                        refine G.iload_n dX12_goes_120 rfl rfl ?_
                        refine G.ishl dX12_goes_121 ?_
                        refine G.ior dX12_goes_122 ?_
                        refine G.putI dX12_goes_123 fkX12_390 nf12_61 ft12_61 h (fun M34 h => ?_)
                        refine G.sub (lv' := [(0, .ref a0), (1, .int s12.1), (2, .int s14.1)]) [0, 1, 2] rfl ?_
                        exact Jj24 _ h
                    · refine G.sub (lv' := [(0, .ref a0), (1, .int s12.1), (2, .int s14.1)]) [0, 1, 2] rfl ?_
                      exact Jj24 _ h
    · intro s8 x8 h K8
      show G yX12_goes cX12_goes 3 none 5 34 [(0, .ref a0), (1, .int s8.1)] [] s8.2 none o
      refine G.iload_n dX12_goes_34 rfl rfl ?_
      refine G.bipush (6 : Int32) dX12_goes_35 kb_6 ?_
      refine G.icmp_ge 53 dX12_goes_37 (by decide) h (fun c9 h => ?_) (fun c9 h => ?_)
      · refine G.sub (lv' := [(0, .ref a0)]) [0] rfl ?_
        have h := leafR' h K8
        exact h
      · refine G.aload_n dX12_goes_40 rfl rfl ?_
        refine G.getR dX12_goes_41 fkX12_173 fr12_71 h (fun v10 h => ?_)
        refine G.iload_n dX12_goes_44 rfl rfl ?_
        refine G.iconst (0 : Int32) dX12_goes_45 ki_0 ?_
        refine G.iast dX12_goes_46 h (fun M11 h => ?_)
        refine G.iinc s8.1 (w := (s8.1 + (1 : Int32))) (lv' := [(1, .int (s8.1 + (1 : Int32))), (0, .ref a0)]) dX12_goes_47 rfl rfl (Nat.le_of_ble_eq_true rfl) rfl ?_
        refine G.goto 34 dX12_goes_50 (by decide) ?_
        refine G.sub (lv' := [(0, .ref a0), (1, .int (s8.1 + (1 : Int32)))]) [1, 0] rfl ?_
        have h := leafL' h K8
        exact h
  · intro s4 x4 h K4
    show G yX12_goes cX12_goes 3 none 5 11 [(0, .ref a0), (1, .int s4.1)] [] s4.2 none o
    refine G.iload_n dX12_goes_11 rfl rfl ?_
    refine G.sipush (600 : Int32) dX12_goes_12 ks_600 ?_
    refine G.icmp_ge 32 dX12_goes_15 (by decide) h (fun c5 h => ?_) (fun c5 h => ?_)
    · refine G.sub (lv' := [(0, .ref a0)]) [0] rfl ?_
      have h := leafR' h K4
      exact h
    · refine G.aload_n dX12_goes_18 rfl rfl ?_
      refine G.getR dX12_goes_19 fkX12_170 fr12_70 h (fun v6 h => ?_)
      refine G.iload_n dX12_goes_22 rfl rfl ?_
      refine G.bipush (99 : Int32) dX12_goes_23 kb_99 ?_
      refine G.iast dX12_goes_25 h (fun M7 h => ?_)
      refine G.iinc s4.1 (w := (s4.1 + (1 : Int32))) (lv' := [(1, .int (s4.1 + (1 : Int32))), (0, .ref a0)]) dX12_goes_26 rfl rfl (Nat.le_of_ble_eq_true rfl) rfl ?_
      refine G.goto 11 dX12_goes_29 (by decide) ?_
      refine G.sub (lv' := [(0, .ref a0), (1, .int (s4.1 + (1 : Int32)))]) [1, 0] rfl ?_
      have h := leafL' h K4
      exact h
-- OnlyUpwardModel.goesAsTold()V
set_option maxRecDepth 100000 in
set_option maxHeartbeats 4000000 in
def F_X12_goesAsTold (n : Nat) (M : AM) (a0 : Nat) : Option AM :=
  (pI 12 73 M a0 (-1 : Int32)).bind fun M1 => (rcv 12 M1 a0 (F_X12_goes n M1 a0)).bind fun M3 => some M3
set_option maxRecDepth 100000 in
set_option maxHeartbeats 4000000 in
theorem C_X12_goesAsTold {n : Nat} {M : AM} {a0 : Nat} {o : AM} (h : F_X12_goesAsTold n M a0 = some o) : Cn yX12_goesAsTold cX12_goesAsTold 1 none 6 [.ref a0] M none o := by
  unfold F_X12_goesAsTold at h
  refine Cn.of rfl (Nat.le_of_ble_eq_true rfl) ?_
  show G yX12_goesAsTold cX12_goesAsTold 1 none 6 0 [(0, .ref a0)] [] M none o
  refine G.aload_n dX12_goesAsTold_0 rfl rfl ?_
  refine G.iconst (-1 : Int32) dX12_goesAsTold_1 ki_m1 ?_
  refine G.putI dX12_goesAsTold_2 fkX12_176 nf12_73 ft12_73 h (fun M1 h => ?_)
  refine G.aload_n dX12_goesAsTold_5 rfl rfl ?_
  refine G.callVv (ci := 12) [] [] dX12_goesAsTold_6 lkX12_469 okX12_goes rfl (fun v hv => C_X12_goes hv) (Nat.le_of_ble_eq_true rfl) rfl rfl (Nat.le_of_ble_eq_true rfl) h (fun M3 h => ?_)
  exact G.vretW dX12_goesAsTold_9 rfl h
-- OnlyUpwardModel.doing(II)I
set_option maxRecDepth 100000 in
set_option maxHeartbeats 4000000 in
def F_X12_doing (n : Nat) (M : AM) (a0 : Nat) (a1 : Int32) (a2 : Int32) : Option (Int32 × AM) :=
  (gI 12 62 M a0).bind fun v1 => (F_X12_in n M a1 (0 : Int32) (v1 - (1 : Int32))).bind fun v2 => if v2 = 0 then some ((-1 : Int32), M) else if a2 = (0 : Int32) then (gR 12 63 M a0).bind fun v5 => (rdI M v5 a1).bind fun v6 => some (v6, M) else if a2 = (1 : Int32) then (gR 12 64 M a0).bind fun v8 => (rdI M v8 a1).bind fun v9 => some (v9, M) else if a2 = (2 : Int32) then (gR 12 65 M a0).bind fun v11 => (rdI M v11 a1).bind fun v12 => some (v12, M) else if a2 = (3 : Int32) then (gR 12 66 M a0).bind fun v14 => (rdI M v14 a1).bind fun v15 => some (v15, M) else if a2 = (4 : Int32) then (gR 12 67 M a0).bind fun v17 => (rdI M v17 a1).bind fun v18 => some (v18, M) else if a2 = (5 : Int32) then (rcv 12 M a0 (F_X12_goesAsTold n M a0)).bind fun M21 => (gR 12 69 M21 a0).bind fun v22 => (rdI M21 v22 a1).bind fun v23 => some (v23, M21) else some ((-1 : Int32), M)
set_option maxRecDepth 100000 in
set_option maxHeartbeats 4000000 in
theorem C_X12_doing {n : Nat} {M : AM} {a0 : Nat} {a1 : Int32} {a2 : Int32} {o : (Int32 × AM)} (h : F_X12_doing n M a0 a1 a2 = some o) : Cn yX12_doing cX12_doing 3 (some .int) 7 [.ref a0, .int a1, .int a2] M (some (.int o.1)) o.2 := by
  unfold F_X12_doing at h
  refine Cn.of rfl (Nat.le_of_ble_eq_true rfl) ?_
  show G yX12_doing cX12_doing 3 (some .int) 7 0 [(0, .ref a0), (1, .int a1), (2, .int a2)] [] M (some (.int o.1)) o.2
  refine G.iload_n dX12_doing_0 rfl rfl ?_
  refine G.iconst (0 : Int32) dX12_doing_1 ki_0 ?_
  refine G.aload_n dX12_doing_2 rfl rfl ?_
  refine G.getI dX12_doing_3 fkX12_308 fr12_62 h (fun v1 h => ?_)
  refine G.iconst (1 : Int32) dX12_doing_6 ki_1 ?_
  refine G.isub dX12_doing_7 ?_
  refine G.callSi [.int a1, .int (0 : Int32), .int (v1 - (1 : Int32))] [] dX12_doing_8 lkX12_386 okX12_in (fun v hv => C_X12_in hv) (Nat.le_of_ble_eq_true rfl) rfl rfl (Nat.le_of_ble_eq_true rfl) h (fun v2 h => ?_)
  refine G.if_ne 16 dX12_doing_11 (by decide) h (fun c3 h => ?_) (fun c3 h => ?_)
  · refine G.iconst (-1 : Int32) dX12_doing_14 ki_m1 ?_
    exact G.iretW dX12_doing_15 rfl (rfl) h
  · refine G.iload_n dX12_doing_16 rfl rfl ?_
    refine G.sw h (fun c4 h => ?_) (fun c4 h => ?_)
    · refine G.tableIn 56 dX12_doing_17 (by rw [c4]; decide) (by rw [c4]; decide) (by rw [c4]; rfl) (by decide) ?_
      refine G.aload_n dX12_doing_56 rfl rfl ?_
      refine G.getR dX12_doing_57 fkX12_149 fr12_63 h (fun v5 h => ?_)
      refine G.iload_n dX12_doing_60 rfl rfl ?_
      refine G.iald dX12_doing_61 h (fun v6 h => ?_)
      exact G.iretW dX12_doing_62 rfl (rfl) h
    · refine G.sw h (fun c7 h => ?_) (fun c7 h => ?_)
      · refine G.tableIn 63 dX12_doing_17 (by rw [c7]; decide) (by rw [c7]; decide) (by rw [c7]; rfl) (by decide) ?_
        refine G.aload_n dX12_doing_63 rfl rfl ?_
        refine G.getR dX12_doing_64 fkX12_152 fr12_64 h (fun v8 h => ?_)
        refine G.iload_n dX12_doing_67 rfl rfl ?_
        refine G.iald dX12_doing_68 h (fun v9 h => ?_)
        exact G.iretW dX12_doing_69 rfl (rfl) h
      · refine G.sw h (fun c10 h => ?_) (fun c10 h => ?_)
        · refine G.tableIn 70 dX12_doing_17 (by rw [c10]; decide) (by rw [c10]; decide) (by rw [c10]; rfl) (by decide) ?_
          refine G.aload_n dX12_doing_70 rfl rfl ?_
          refine G.getR dX12_doing_71 fkX12_155 fr12_65 h (fun v11 h => ?_)
          refine G.iload_n dX12_doing_74 rfl rfl ?_
          refine G.iald dX12_doing_75 h (fun v12 h => ?_)
          exact G.iretW dX12_doing_76 rfl (rfl) h
        · refine G.sw h (fun c13 h => ?_) (fun c13 h => ?_)
          · refine G.tableIn 77 dX12_doing_17 (by rw [c13]; decide) (by rw [c13]; decide) (by rw [c13]; rfl) (by decide) ?_
            refine G.aload_n dX12_doing_77 rfl rfl ?_
            refine G.getR dX12_doing_78 fkX12_158 fr12_66 h (fun v14 h => ?_)
            refine G.iload_n dX12_doing_81 rfl rfl ?_
            refine G.iald dX12_doing_82 h (fun v15 h => ?_)
            exact G.iretW dX12_doing_83 rfl (rfl) h
          · refine G.sw h (fun c16 h => ?_) (fun c16 h => ?_)
            · refine G.tableIn 84 dX12_doing_17 (by rw [c16]; decide) (by rw [c16]; decide) (by rw [c16]; rfl) (by decide) ?_
              refine G.aload_n dX12_doing_84 rfl rfl ?_
              refine G.getR dX12_doing_85 fkX12_161 fr12_67 h (fun v17 h => ?_)
              refine G.iload_n dX12_doing_88 rfl rfl ?_
              refine G.iald dX12_doing_89 h (fun v18 h => ?_)
              exact G.iretW dX12_doing_90 rfl (rfl) h
            · refine G.sw h (fun c19 h => ?_) (fun c19 h => ?_)
              · refine G.tableIn 91 dX12_doing_17 (by rw [c19]; decide) (by rw [c19]; decide) (by rw [c19]; rfl) (by decide) ?_
                refine G.aload_n dX12_doing_91 rfl rfl ?_
                refine G.callVv (ci := 12) [] [] dX12_doing_92 lkX12_472 okX12_goesAsTold rfl (fun v hv => C_X12_goesAsTold hv) (Nat.le_of_ble_eq_true rfl) rfl rfl (Nat.le_of_ble_eq_true rfl) h (fun M21 h => ?_)
                refine G.aload_n dX12_doing_95 rfl rfl ?_
                refine G.getR dX12_doing_96 fkX12_167 fr12_69 h (fun v22 h => ?_)
                refine G.iload_n dX12_doing_99 rfl rfl ?_
                refine G.iald dX12_doing_100 h (fun v23 h => ?_)
                exact G.iretW dX12_doing_101 rfl (rfl) h
              · refine G.tableOut 102 dX12_doing_17 (sw_out (lo := 0) (hi := 5) (fun z24 g1 g2 ge => ?_)) (by decide) ?_
                · have hz : z24 = 0 ∨ z24 = 1 ∨ z24 = 2 ∨ z24 = 3 ∨ z24 = 4 ∨ z24 = 5 := by omega
                  rcases hz with rfl | rfl | rfl | rfl | rfl | rfl
                  · exact c4 ge
                  · exact c7 ge
                  · exact c10 ge
                  · exact c13 ge
                  · exact c16 ge
                  · exact c19 ge
                · refine G.iconst (-1 : Int32) dX12_doing_102 ki_m1 ?_
                  exact G.iretW dX12_doing_103 rfl (rfl) h
-- OnlyUpwardModel.judge()I
set_option maxRecDepth 100000 in
set_option maxHeartbeats 4000000 in
def F_X12_judge (n : Nat) (M : AM) (a0 : Nat) : Option (Int32 × AM) :=
  (rcv 12 M a0 (F_X12_goesAsTold n M a0)).bind fun M2 => (iter (fun (s3 : Int32) => if (24 : Int32) ≤ s3 then some (.inr (.inl ())) else (iter (fun (s5 : Int32) => (gI 12 62 M2 a0).bind fun v6 => if v6 ≤ s5 then some (.inr (.inl ())) else (gR 12 64 M2 a0).bind fun v8 => (rdI M2 v8 s5).bind fun v9 => jn (some (.inl (s5 + (1 : Int32)))) fun j10 => if v9 = s3 then (gR 12 69 M2 a0).bind fun v12 => (rdI M2 v12 s5).bind fun v13 => if v13 ≤ 0 then j10 else some (.inr (.inr (s5, M2))) else j10) n (0 : Int32)).bind fun (z5 : (Unit) ⊕ (Int32 × AM)) => Sum.elim (fun (e5 : Unit) => some (.inl (s3 + (1 : Int32)))) (fun (v : (Int32 × AM)) => some (.inr (.inr v))) z5) n (0 : Int32)).bind fun (z3 : (Unit) ⊕ (Int32 × AM)) => Sum.elim (fun (e3 : Unit) => some ((-2 : Int32), M2)) (fun (v : (Int32 × AM)) => some v) z3
set_option maxRecDepth 100000 in
set_option maxHeartbeats 4000000 in
theorem C_X12_judge {n : Nat} {M : AM} {a0 : Nat} {o : (Int32 × AM)} (h : F_X12_judge n M a0 = some o) : Cn yX12_judge cX12_judge 3 (some .int) 7 [.ref a0] M (some (.int o.1)) o.2 := by
  unfold F_X12_judge at h
  refine Cn.of rfl (Nat.le_of_ble_eq_true rfl) ?_
  show G yX12_judge cX12_judge 3 (some .int) 7 0 [(0, .ref a0)] [] M (some (.int o.1)) o.2
  refine G.aload_n dX12_judge_0 rfl rfl ?_
  refine G.callVv (ci := 12) [] [] dX12_judge_1 lkX12_472 okX12_goesAsTold rfl (fun v hv => C_X12_goesAsTold hv) (Nat.le_of_ble_eq_true rfl) rfl rfl (Nat.le_of_ble_eq_true rfl) h (fun M2 h => ?_)
  refine G.iconst (0 : Int32) dX12_judge_4 ki_0 ?_
  refine G.istore_n (lv' := [(1, .int (0 : Int32)), (0, .ref a0)]) dX12_judge_5 rfl (Nat.le_of_ble_eq_true rfl) rfl ?_
  refine G.sub (lv' := [(0, .ref a0), (1, .int (0 : Int32))]) [1, 0] rfl ?_
  refine loopE (fun (s3 : Int32) => G yX12_judge cX12_judge 3 (some .int) 7 6 [(0, .ref a0), (1, .int s3)] [] M2 (some (.int o.1)) o.2) (fun (z3 : (Unit) ⊕ (Int32 × AM)) => Sum.elim (fun (e3 : Unit) => G yX12_judge cX12_judge 3 (some .int) 7 55 [] [] M2 (some (.int o.1)) o.2) (fun (v : (Int32 × AM)) => some v = some o) z3) h ?_ ?_
  · intro z3 h
    rcases z3 with e3 | v
    · have h := sum_inl h
      show G yX12_judge cX12_judge 3 (some .int) 7 55 [] [] M2 (some (.int o.1)) o.2
      refine G.bipush (-2 : Int32) dX12_judge_55 kb_m2 ?_
      exact G.iretW dX12_judge_57 rfl (rfl) h
    · have h := sum_inr h
      exact h
  · intro s3 x3 h K3
    show G yX12_judge cX12_judge 3 (some .int) 7 6 [(0, .ref a0), (1, .int s3)] [] M2 (some (.int o.1)) o.2
    refine G.iload_n dX12_judge_6 rfl rfl ?_
    refine G.bipush (24 : Int32) dX12_judge_7 kb_24 ?_
    refine G.icmp_ge 55 dX12_judge_9 (by decide) h (fun c4 h => ?_) (fun c4 h => ?_)
    · refine G.sub (lv' := []) [] rfl ?_
      have h := leafR' h K3
      exact h
    · refine G.iconst (0 : Int32) dX12_judge_12 ki_0 ?_
      refine G.istore_n (lv' := [(2, .int (0 : Int32)), (0, .ref a0), (1, .int s3)]) dX12_judge_13 rfl (Nat.le_of_ble_eq_true rfl) rfl ?_
      refine G.sub (lv' := [(0, .ref a0), (1, .int s3), (2, .int (0 : Int32))]) [1, 2, 0] rfl ?_
      refine loopE (fun (s5 : Int32) => G yX12_judge cX12_judge 3 (some .int) 7 14 [(0, .ref a0), (1, .int s3), (2, .int s5)] [] M2 (some (.int o.1)) o.2) (fun (z5 : (Unit) ⊕ (Int32 × AM)) => Sum.elim (fun (e5 : Unit) => G yX12_judge cX12_judge 3 (some .int) 7 49 [(0, .ref a0), (1, .int s3)] [] M2 (some (.int o.1)) o.2) (fun (v : (Int32 × AM)) => some (.inr (.inr v)) = some x3) z5) h ?_ ?_
      · intro z5 h
        rcases z5 with e5 | v
        · have h := sum_inl h
          show G yX12_judge cX12_judge 3 (some .int) 7 49 [(0, .ref a0), (1, .int s3)] [] M2 (some (.int o.1)) o.2
          refine G.iinc s3 (w := (s3 + (1 : Int32))) (lv' := [(1, .int (s3 + (1 : Int32))), (0, .ref a0)]) dX12_judge_49 rfl rfl (Nat.le_of_ble_eq_true rfl) rfl ?_
          refine G.goto 6 dX12_judge_52 (by decide) ?_
          refine G.sub (lv' := [(0, .ref a0), (1, .int (s3 + (1 : Int32)))]) [1, 0] rfl ?_
          have h := leafL' h K3
          exact h
        · have h := sum_inr h
          exact h
      · intro s5 x5 h K5
        show G yX12_judge cX12_judge 3 (some .int) 7 14 [(0, .ref a0), (1, .int s3), (2, .int s5)] [] M2 (some (.int o.1)) o.2
        refine G.iload_n dX12_judge_14 rfl rfl ?_
        refine G.aload_n dX12_judge_15 rfl rfl ?_
        refine G.getI dX12_judge_16 fkX12_308 fr12_62 h (fun v6 h => ?_)
        refine G.icmp_ge 49 dX12_judge_19 (by decide) h (fun c7 h => ?_) (fun c7 h => ?_)
        · refine G.sub (lv' := [(0, .ref a0), (1, .int s3)]) [0, 1] rfl ?_
          have h := leafR' h K5
          exact h
        · refine G.aload_n dX12_judge_22 rfl rfl ?_
          refine G.getR dX12_judge_23 fkX12_152 fr12_64 h (fun v8 h => ?_)
          refine G.iload_n dX12_judge_26 rfl rfl ?_
          refine G.iald dX12_judge_27 h (fun v9 h => ?_)
          refine G.iload_n dX12_judge_28 rfl rfl ?_
          refine jn_elim (fun j10 => j10 = some x5 → G yX12_judge cX12_judge 3 (some .int) 7 43 [(0, .ref a0), (1, .int s3), (2, .int s5)] [] M2 (some (.int o.1)) o.2) h ?_ ?_
          · intro h
            refine G.iinc s5 (w := (s5 + (1 : Int32))) (lv' := [(2, .int (s5 + (1 : Int32))), (0, .ref a0), (1, .int s3)]) dX12_judge_43 rfl rfl (Nat.le_of_ble_eq_true rfl) rfl ?_
            refine G.goto 14 dX12_judge_46 (by decide) ?_
            refine G.sub (lv' := [(0, .ref a0), (1, .int s3), (2, .int (s5 + (1 : Int32)))]) [1, 2, 0] rfl ?_
            have h := leafL' h K5
            exact h
          · intro j10 Jj10 h
            refine G.icmp_ne 43 dX12_judge_29 (by decide) h (fun c11 h => ?_) (fun c11 h => ?_)
            · refine G.aload_n dX12_judge_32 rfl rfl ?_
              refine G.getR dX12_judge_33 fkX12_167 fr12_69 h (fun v12 h => ?_)
              refine G.iload_n dX12_judge_36 rfl rfl ?_
              refine G.iald dX12_judge_37 h (fun v13 h => ?_)
              refine G.if_le 43 dX12_judge_38 (by decide) h (fun c14 h => ?_) (fun c14 h => ?_)
              · refine G.sub (lv' := [(0, .ref a0), (1, .int s3), (2, .int s5)]) [0, 1, 2] rfl ?_
                exact Jj10  h
              · refine G.iload_n dX12_judge_41 rfl rfl ?_
                have h := leafR' h K5
                have h := leafR' h K3
                exact G.iretW dX12_judge_42 rfl (rfl) h
            · refine G.sub (lv' := [(0, .ref a0), (1, .int s3), (2, .int s5)]) [0, 1, 2] rfl ?_
              exact Jj10  h
-- OnlyUpwardModel.costOf(II)I
set_option maxRecDepth 100000 in
set_option maxHeartbeats 4000000 in
def F_X12_costOf (n : Nat) (M : AM) (a0 : Nat) (a1 : Int32) (a2 : Int32) : Option Int32 :=
  if a1 = (1 : Int32) then (gR 12 41 M a0).bind fun v2 => (gI 12 18 M a0).bind fun v3 => (rdI M v2 (((6 : Int32) * v3) + a2)).bind fun v4 => some v4 else if a1 = (2 : Int32) then some (5 : Int32) else some (1 : Int32)
set_option maxRecDepth 100000 in
set_option maxHeartbeats 4000000 in
theorem C_X12_costOf {n : Nat} {M : AM} {a0 : Nat} {a1 : Int32} {a2 : Int32} {o : Int32} (h : F_X12_costOf n M a0 a1 a2 = some o) : Cn yX12_costOf cX12_costOf 3 (some .int) 0 [.ref a0, .int a1, .int a2] M (some (.int o)) M := by
  unfold F_X12_costOf at h
  refine Cn.of rfl (Nat.le_of_ble_eq_true rfl) ?_
  show G yX12_costOf cX12_costOf 3 (some .int) 0 0 [(0, .ref a0), (1, .int a1), (2, .int a2)] [] M (some (.int o)) M
  refine G.iload_n dX12_costOf_0 rfl rfl ?_
  refine G.iconst (1 : Int32) dX12_costOf_1 ki_1 ?_
  refine G.icmp_ne 22 dX12_costOf_2 (by decide) h (fun c1 h => ?_) (fun c1 h => ?_)
  · refine G.aload_n dX12_costOf_5 rfl rfl ?_
    refine G.getR dX12_costOf_6 fkX12_100 fr12_41 h (fun v2 h => ?_)
    refine G.bipush (6 : Int32) dX12_costOf_9 kb_6 ?_
    refine G.aload_n dX12_costOf_11 rfl rfl ?_
    refine G.getI dX12_costOf_12 fkX12_290 fr12_18 h (fun v3 h => ?_)
    refine G.imul dX12_costOf_15 ?_
    refine G.iload_n dX12_costOf_16 rfl rfl ?_
    refine G.iadd dX12_costOf_17 ?_
    refine G.iald dX12_costOf_18 h (fun v4 h => ?_)
    refine G.goto 32 dX12_costOf_19 (by decide) ?_
    exact G.iret dX12_costOf_32 rfl (rfl) h
  · refine G.iload_n dX12_costOf_22 rfl rfl ?_
    refine G.iconst (2 : Int32) dX12_costOf_23 ki_2 ?_
    refine G.icmp_ne 31 dX12_costOf_24 (by decide) h (fun c5 h => ?_) (fun c5 h => ?_)
    · refine G.iconst (5 : Int32) dX12_costOf_27 ki_5 ?_
      refine G.goto 32 dX12_costOf_28 (by decide) ?_
      exact G.iret dX12_costOf_32 rfl (rfl) h
    · refine G.iconst (1 : Int32) dX12_costOf_31 ki_1 ?_
      exact G.iret dX12_costOf_32 rfl (rfl) h
-- OnlyUpwardModel.cost()I
set_option maxRecDepth 100000 in
set_option maxHeartbeats 4000000 in
def F_X12_cost (n : Nat) (M : AM) (a0 : Nat) : Option (Int32 × AM) :=
  (rcv 12 M a0 (F_X12_goesAsTold n M a0)).bind fun M2 => (iter (fun (s3 : Int32 × Int32) => (gI 12 62 M2 a0).bind fun v4 => if v4 ≤ s3.2 then some (.inr s3.1) else (gR 12 69 M2 a0).bind fun v6 => (rdI M2 v6 s3.2).bind fun v7 => jn (fun (u8 : Int32) => some (.inl (u8, (s3.2 + (1 : Int32))))) fun j9 => if v7 = 0 then (gR 12 63 M2 a0).bind fun v11 => (rdI M2 v11 s3.2).bind fun v12 => (gR 12 66 M2 a0).bind fun v13 => (rdI M2 v13 s3.2).bind fun v14 => (rcv 12 M2 a0 (F_X12_costOf n M2 a0 v12 v14)).bind fun v15 => j9 (s3.1 + v15) else j9 s3.1) n ((0 : Int32), (0 : Int32))).bind fun (e3 : Int32) => some (e3, M2)
set_option maxRecDepth 100000 in
set_option maxHeartbeats 4000000 in
theorem C_X12_cost {n : Nat} {M : AM} {a0 : Nat} {o : (Int32 × AM)} (h : F_X12_cost n M a0 = some o) : Cn yX12_cost cX12_cost 3 (some .int) 7 [.ref a0] M (some (.int o.1)) o.2 := by
  unfold F_X12_cost at h
  refine Cn.of rfl (Nat.le_of_ble_eq_true rfl) ?_
  show G yX12_cost cX12_cost 3 (some .int) 7 0 [(0, .ref a0)] [] M (some (.int o.1)) o.2
  refine G.aload_n dX12_cost_0 rfl rfl ?_
  refine G.callVv (ci := 12) [] [] dX12_cost_1 lkX12_472 okX12_goesAsTold rfl (fun v hv => C_X12_goesAsTold hv) (Nat.le_of_ble_eq_true rfl) rfl rfl (Nat.le_of_ble_eq_true rfl) h (fun M2 h => ?_)
  refine G.iconst (0 : Int32) dX12_cost_4 ki_0 ?_
  refine G.istore_n (lv' := [(1, .int (0 : Int32)), (0, .ref a0)]) dX12_cost_5 rfl (Nat.le_of_ble_eq_true rfl) rfl ?_
  refine G.iconst (0 : Int32) dX12_cost_6 ki_0 ?_
  refine G.istore_n (lv' := [(2, .int (0 : Int32)), (1, .int (0 : Int32)), (0, .ref a0)]) dX12_cost_7 rfl (Nat.le_of_ble_eq_true rfl) rfl ?_
  refine G.sub (lv' := [(0, .ref a0), (1, .int (0 : Int32)), (2, .int (0 : Int32))]) [2, 1, 0] rfl ?_
  refine loopE (fun (s3 : Int32 × Int32) => G yX12_cost cX12_cost 3 (some .int) 7 8 [(0, .ref a0), (1, .int s3.1), (2, .int s3.2)] [] M2 (some (.int o.1)) o.2) (fun (e3 : Int32) => G yX12_cost cX12_cost 3 (some .int) 7 50 [(1, .int e3)] [] M2 (some (.int o.1)) o.2) h ?_ ?_
  · intro e3 h
    show G yX12_cost cX12_cost 3 (some .int) 7 50 [(1, .int e3)] [] M2 (some (.int o.1)) o.2
    refine G.iload_n dX12_cost_50 rfl rfl ?_
    exact G.iretW dX12_cost_51 rfl (rfl) h
  · intro s3 x3 h K3
    show G yX12_cost cX12_cost 3 (some .int) 7 8 [(0, .ref a0), (1, .int s3.1), (2, .int s3.2)] [] M2 (some (.int o.1)) o.2
    refine G.iload_n dX12_cost_8 rfl rfl ?_
    refine G.aload_n dX12_cost_9 rfl rfl ?_
    refine G.getI dX12_cost_10 fkX12_308 fr12_62 h (fun v4 h => ?_)
    refine G.icmp_ge 50 dX12_cost_13 (by decide) h (fun c5 h => ?_) (fun c5 h => ?_)
    · refine G.sub (lv' := [(1, .int s3.1)]) [1] rfl ?_
      have h := leafR' h K3
      exact h
    · refine G.aload_n dX12_cost_16 rfl rfl ?_
      refine G.getR dX12_cost_17 fkX12_167 fr12_69 h (fun v6 h => ?_)
      refine G.iload_n dX12_cost_20 rfl rfl ?_
      refine G.iald dX12_cost_21 h (fun v7 h => ?_)
      refine jn_elim (fun j9 => ∀ (u8 : Int32), j9 u8 = some x3 → G yX12_cost cX12_cost 3 (some .int) 7 44 [(0, .ref a0), (1, .int u8), (2, .int s3.2)] [] M2 (some (.int o.1)) o.2) h ?_ ?_
      · intro u8 h
        refine G.iinc s3.2 (w := (s3.2 + (1 : Int32))) (lv' := [(2, .int (s3.2 + (1 : Int32))), (0, .ref a0), (1, .int u8)]) dX12_cost_44 rfl rfl (Nat.le_of_ble_eq_true rfl) rfl ?_
        refine G.goto 8 dX12_cost_47 (by decide) ?_
        refine G.sub (lv' := [(0, .ref a0), (1, .int u8), (2, .int (s3.2 + (1 : Int32)))]) [1, 2, 0] rfl ?_
        have h := leafL' h K3
        exact h
      · intro j9 Jj9 h
        refine G.if_ne 44 dX12_cost_22 (by decide) h (fun c10 h => ?_) (fun c10 h => ?_)
        · refine G.iload_n dX12_cost_25 rfl rfl ?_
          refine G.aload_n dX12_cost_26 rfl rfl ?_
          refine G.aload_n dX12_cost_27 rfl rfl ?_
          refine G.getR dX12_cost_28 fkX12_149 fr12_63 h (fun v11 h => ?_)
          refine G.iload_n dX12_cost_31 rfl rfl ?_
          refine G.iald dX12_cost_32 h (fun v12 h => ?_)
          refine G.aload_n dX12_cost_33 rfl rfl ?_
          refine G.getR dX12_cost_34 fkX12_158 fr12_66 h (fun v13 h => ?_)
          refine G.iload_n dX12_cost_37 rfl rfl ?_
          refine G.iald dX12_cost_38 h (fun v14 h => ?_)
          refine G.callVi (ci := 12) [.int v12, .int v14] [.int s3.1] dX12_cost_39 lkX12_475 okX12_costOf rfl (fun v hv => C_X12_costOf hv) (Nat.le_of_ble_eq_true rfl) rfl rfl (Nat.le_of_ble_eq_true rfl) h (fun v15 h => ?_)
          refine G.iadd dX12_cost_42 ?_
          refine G.istore_n (lv' := [(1, .int (s3.1 + v15)), (0, .ref a0), (2, .int s3.2)]) dX12_cost_43 rfl (Nat.le_of_ble_eq_true rfl) rfl ?_
          refine G.sub (lv' := [(0, .ref a0), (1, .int (s3.1 + v15)), (2, .int s3.2)]) [1, 0, 2] rfl ?_
          exact Jj9 _ h
        · refine G.sub (lv' := [(0, .ref a0), (1, .int s3.1), (2, .int s3.2)]) [0, 1, 2] rfl ?_
          exact Jj9 _ h
-- OnlyUpwardModel.isEnd(I)Z
set_option maxRecDepth 100000 in
set_option maxHeartbeats 4000000 in
def F_X12_isEnd (n : Nat) (M : AM) (a0 : Int32) : Option Int32 :=
  (F_X12_in n M a0 (0 : Int32) (24 : Int32)).bind fun v1 => gd (narrow .boolean (.int v1) = .int v1) (some v1)
set_option maxRecDepth 100000 in
set_option maxHeartbeats 4000000 in
theorem C_X12_isEnd {n : Nat} {M : AM} {a0 : Int32} {o : Int32} (h : F_X12_isEnd n M a0 = some o) : Cn yX12_isEnd cX12_isEnd 1 (some .boolean) 1 [.int a0] M (some (.int o)) M := by
  unfold F_X12_isEnd at h
  refine Cn.of rfl (Nat.le_of_ble_eq_true rfl) ?_
  show G yX12_isEnd cX12_isEnd 1 (some .boolean) 1 0 [(0, .int a0)] [] M (some (.int o)) M
  refine G.iload_n dX12_isEnd_0 rfl rfl ?_
  refine G.iconst (0 : Int32) dX12_isEnd_1 ki_0 ?_
  refine G.bipush (24 : Int32) dX12_isEnd_2 kb_24 ?_
  refine G.callSi [.int a0, .int (0 : Int32), .int (24 : Int32)] [] dX12_isEnd_4 lkX12_386 okX12_in (fun v hv => C_X12_in hv) (Nat.le_of_ble_eq_true rfl) rfl rfl (Nat.le_of_ble_eq_true rfl) h (fun v1 h => ?_)
  refine gd_elim h (fun c2 h => ?_)
  exact G.iret dX12_isEnd_7 rfl (c2) h
-- OnlyUpwardModel.knows(II)I
set_option maxRecDepth 100000 in
set_option maxHeartbeats 4000000 in
def F_X12_knows (n : Nat) (M : AM) (a0 : Nat) (a1 : Int32) (a2 : Int32) : Option (Int32 × AM) :=
  (rcv 12 M a0 (F_X12_isPerson n M a0 a1)).bind fun v1 => if v1 = 0 then some ((-1 : Int32), M) else (F_X12_isEnd n M a2).bind fun v3 => if v3 = 0 then some ((-1 : Int32), M) else (rcv 12 M a0 (F_X12_goesAsTold n M a0)).bind fun M6 => (gR 12 68 M6 a0).bind fun v7 => (rdI M6 v7 (((10 : Int32) * a2) + a1)).bind fun v8 => some (v8, M6)
set_option maxRecDepth 100000 in
set_option maxHeartbeats 4000000 in
theorem C_X12_knows {n : Nat} {M : AM} {a0 : Nat} {a1 : Int32} {a2 : Int32} {o : (Int32 × AM)} (h : F_X12_knows n M a0 a1 a2 = some o) : Cn yX12_knows cX12_knows 3 (some .int) 7 [.ref a0, .int a1, .int a2] M (some (.int o.1)) o.2 := by
  unfold F_X12_knows at h
  refine Cn.of rfl (Nat.le_of_ble_eq_true rfl) ?_
  show G yX12_knows cX12_knows 3 (some .int) 7 0 [(0, .ref a0), (1, .int a1), (2, .int a2)] [] M (some (.int o.1)) o.2
  refine G.aload_n dX12_knows_0 rfl rfl ?_
  refine G.iload_n dX12_knows_1 rfl rfl ?_
  refine G.callVi (ci := 12) [.int a1] [] dX12_knows_2 lkX12_415 okX12_isPerson rfl (fun v hv => C_X12_isPerson hv) (Nat.le_of_ble_eq_true rfl) rfl rfl (Nat.le_of_ble_eq_true rfl) h (fun v1 h => ?_)
  refine G.if_eq 15 dX12_knows_5 (by decide) h (fun c2 h => ?_) (fun c2 h => ?_)
  · refine G.iconst (-1 : Int32) dX12_knows_15 ki_m1 ?_
    exact G.iretW dX12_knows_16 rfl (rfl) h
  · refine G.iload_n dX12_knows_8 rfl rfl ?_
    refine G.callSi [.int a2] [] dX12_knows_9 lkX12_478 okX12_isEnd (fun v hv => C_X12_isEnd hv) (Nat.le_of_ble_eq_true rfl) rfl rfl (Nat.le_of_ble_eq_true rfl) h (fun v3 h => ?_)
    refine G.if_ne 17 dX12_knows_12 (by decide) h (fun c4 h => ?_) (fun c4 h => ?_)
    · refine G.iconst (-1 : Int32) dX12_knows_15 ki_m1 ?_
      exact G.iretW dX12_knows_16 rfl (rfl) h
    · refine G.aload_n dX12_knows_17 rfl rfl ?_
      refine G.callVv (ci := 12) [] [] dX12_knows_18 lkX12_472 okX12_goesAsTold rfl (fun v hv => C_X12_goesAsTold hv) (Nat.le_of_ble_eq_true rfl) rfl rfl (Nat.le_of_ble_eq_true rfl) h (fun M6 h => ?_)
      refine G.aload_n dX12_knows_21 rfl rfl ?_
      refine G.getR dX12_knows_22 fkX12_164 fr12_68 h (fun v7 h => ?_)
      refine G.bipush (10 : Int32) dX12_knows_25 kb_10 ?_
      refine G.iload_n dX12_knows_27 rfl rfl ?_
      refine G.imul dX12_knows_28 ?_
      refine G.iload_n dX12_knows_29 rfl rfl ?_
      refine G.iadd dX12_knows_30 ?_
      refine G.iald dX12_knows_31 h (fun v8 h => ?_)
      exact G.iretW dX12_knows_32 rfl (rfl) h
-- OnlyUpwardModel.when(II)I
set_option maxRecDepth 100000 in
set_option maxHeartbeats 4000000 in
def F_X12_when (n : Nat) (M : AM) (a0 : Nat) (a1 : Int32) (a2 : Int32) : Option (Int32 × AM) :=
  (rcv 12 M a0 (F_X12_isPerson n M a0 a1)).bind fun v1 => if v1 = 0 then some ((-1 : Int32), M) else (rcv 12 M a0 (F_X12_isThing n M a0 a2)).bind fun v3 => if v3 = 0 then some ((-1 : Int32), M) else (rcv 12 M a0 (F_X12_goesAsTold n M a0)).bind fun M6 => (iter (fun (s7 : Int32) => if (25 : Int32) ≤ s7 then some (.inr (.inl ())) else (rcv 12 M6 a0 (F_X12_knowsIt n M6 a0 a1 s7 a2)).bind fun v9 => if v9 = 0 then some (.inl (s7 + (1 : Int32))) else some (.inr (.inr (s7, M6)))) n (0 : Int32)).bind fun (z7 : (Unit) ⊕ (Int32 × AM)) => Sum.elim (fun (e7 : Unit) => some ((-2 : Int32), M6)) (fun (v : (Int32 × AM)) => some v) z7
set_option maxRecDepth 100000 in
set_option maxHeartbeats 4000000 in
theorem C_X12_when {n : Nat} {M : AM} {a0 : Nat} {a1 : Int32} {a2 : Int32} {o : (Int32 × AM)} (h : F_X12_when n M a0 a1 a2 = some o) : Cn yX12_when cX12_when 4 (some .int) 7 [.ref a0, .int a1, .int a2] M (some (.int o.1)) o.2 := by
  unfold F_X12_when at h
  refine Cn.of rfl (Nat.le_of_ble_eq_true rfl) ?_
  show G yX12_when cX12_when 4 (some .int) 7 0 [(0, .ref a0), (1, .int a1), (2, .int a2)] [] M (some (.int o.1)) o.2
  refine G.aload_n dX12_when_0 rfl rfl ?_
  refine G.iload_n dX12_when_1 rfl rfl ?_
  refine G.callVi (ci := 12) [.int a1] [] dX12_when_2 lkX12_415 okX12_isPerson rfl (fun v hv => C_X12_isPerson hv) (Nat.le_of_ble_eq_true rfl) rfl rfl (Nat.le_of_ble_eq_true rfl) h (fun v1 h => ?_)
  refine G.if_eq 16 dX12_when_5 (by decide) h (fun c2 h => ?_) (fun c2 h => ?_)
  · refine G.iconst (-1 : Int32) dX12_when_16 ki_m1 ?_
    exact G.iretW dX12_when_17 rfl (rfl) h
  · refine G.aload_n dX12_when_8 rfl rfl ?_
    refine G.iload_n dX12_when_9 rfl rfl ?_
    refine G.callVi (ci := 12) [.int a2] [] dX12_when_10 lkX12_434 okX12_isThing rfl (fun v hv => C_X12_isThing hv) (Nat.le_of_ble_eq_true rfl) rfl rfl (Nat.le_of_ble_eq_true rfl) h (fun v3 h => ?_)
    refine G.if_ne 18 dX12_when_13 (by decide) h (fun c4 h => ?_) (fun c4 h => ?_)
    · refine G.iconst (-1 : Int32) dX12_when_16 ki_m1 ?_
      exact G.iretW dX12_when_17 rfl (rfl) h
    · refine G.aload_n dX12_when_18 rfl rfl ?_
      refine G.callVv (ci := 12) [] [] dX12_when_19 lkX12_472 okX12_goesAsTold rfl (fun v hv => C_X12_goesAsTold hv) (Nat.le_of_ble_eq_true rfl) rfl rfl (Nat.le_of_ble_eq_true rfl) h (fun M6 h => ?_)
      refine G.iconst (0 : Int32) dX12_when_22 ki_0 ?_
      refine G.istore_n (lv' := [(3, .int (0 : Int32)), (0, .ref a0), (1, .int a1), (2, .int a2)]) dX12_when_23 rfl (Nat.le_of_ble_eq_true rfl) rfl ?_
      refine G.sub (lv' := [(0, .ref a0), (1, .int a1), (2, .int a2), (3, .int (0 : Int32))]) [1, 2, 3, 0] rfl ?_
      refine loopE (fun (s7 : Int32) => G yX12_when cX12_when 4 (some .int) 7 24 [(0, .ref a0), (1, .int a1), (2, .int a2), (3, .int s7)] [] M6 (some (.int o.1)) o.2) (fun (z7 : (Unit) ⊕ (Int32 × AM)) => Sum.elim (fun (e7 : Unit) => G yX12_when cX12_when 4 (some .int) 7 48 [] [] M6 (some (.int o.1)) o.2) (fun (v : (Int32 × AM)) => some v = some o) z7) h ?_ ?_
      · intro z7 h
        rcases z7 with e7 | v
        · have h := sum_inl h
          show G yX12_when cX12_when 4 (some .int) 7 48 [] [] M6 (some (.int o.1)) o.2
          refine G.bipush (-2 : Int32) dX12_when_48 kb_m2 ?_
          exact G.iretW dX12_when_50 rfl (rfl) h
        · have h := sum_inr h
          exact h
      · intro s7 x7 h K7
        show G yX12_when cX12_when 4 (some .int) 7 24 [(0, .ref a0), (1, .int a1), (2, .int a2), (3, .int s7)] [] M6 (some (.int o.1)) o.2
        refine G.iload_n dX12_when_24 rfl rfl ?_
        refine G.bipush (25 : Int32) dX12_when_25 kb_25 ?_
        refine G.icmp_ge 48 dX12_when_27 (by decide) h (fun c8 h => ?_) (fun c8 h => ?_)
        · refine G.sub (lv' := []) [] rfl ?_
          have h := leafR' h K7
          exact h
        · refine G.aload_n dX12_when_30 rfl rfl ?_
          refine G.iload_n dX12_when_31 rfl rfl ?_
          refine G.iload_n dX12_when_32 rfl rfl ?_
          refine G.iload_n dX12_when_33 rfl rfl ?_
          refine G.callVi (ci := 12) [.int a1, .int s7, .int a2] [] dX12_when_34 lkX12_444 okX12_knowsIt rfl (fun v hv => C_X12_knowsIt hv) (Nat.le_of_ble_eq_true rfl) rfl rfl (Nat.le_of_ble_eq_true rfl) h (fun v9 h => ?_)
          refine G.if_eq 42 dX12_when_37 (by decide) h (fun c10 h => ?_) (fun c10 h => ?_)
          · refine G.iinc s7 (w := (s7 + (1 : Int32))) (lv' := [(3, .int (s7 + (1 : Int32))), (0, .ref a0), (1, .int a1), (2, .int a2)]) dX12_when_42 rfl rfl (Nat.le_of_ble_eq_true rfl) rfl ?_
            refine G.goto 24 dX12_when_45 (by decide) ?_
            refine G.sub (lv' := [(0, .ref a0), (1, .int a1), (2, .int a2), (3, .int (s7 + (1 : Int32)))]) [1, 2, 3, 0] rfl ?_
            have h := leafL' h K7
            exact h
          · refine G.iload_n dX12_when_40 rfl rfl ?_
            have h := leafR' h K7
            exact G.iretW dX12_when_41 rfl (rfl) h
-- OnlyUpwardModel.seen(III)I
set_option maxRecDepth 100000 in
set_option maxHeartbeats 4000000 in
def F_X12_seen (n : Nat) (M : AM) (a0 : Nat) (a1 : Int32) (a2 : Int32) (a3 : Int32) : Option (Int32 × AM) :=
  (rcv 12 M a0 (F_X12_isPerson n M a0 a1)).bind fun v1 => if v1 = 0 then some ((-1 : Int32), M) else (rcv 12 M a0 (F_X12_isPerson n M a0 a2)).bind fun v3 => if v3 = 0 then some ((-1 : Int32), M) else if a1 = a2 then some ((-1 : Int32), M) else (F_X12_isEnd n M a3).bind fun v6 => if v6 = 0 then some ((-1 : Int32), M) else (rcv 12 M a0 (F_X12_goesAsTold n M a0)).bind fun M9 => (iter (fun (s10 : Int32 × Int32) => (rcv 12 M9 a0 (F_X12_has n M9 a0 (2 : Int32))).bind fun v11 => if v11 ≤ s10.2 then some (.inr s10.1) else (gR 12 70 M9 a0).bind fun v13 => (rdI M9 v13 ((((60 : Int32) * a1) + ((6 : Int32) * a2)) + s10.2)).bind fun v14 => jn (fun (u15 : Int32) => some (.inl (u15, (s10.2 + (1 : Int32))))) fun j16 => if a3 < v14 then j16 s10.1 else j16 (s10.1 ||| ((1 : Int32) <<< (s10.2 &&& 31)))) n ((0 : Int32), (0 : Int32))).bind fun (e10 : Int32) => some (e10, M9)
set_option maxRecDepth 100000 in
set_option maxHeartbeats 4000000 in
theorem C_X12_seen {n : Nat} {M : AM} {a0 : Nat} {a1 : Int32} {a2 : Int32} {a3 : Int32} {o : (Int32 × AM)} (h : F_X12_seen n M a0 a1 a2 a3 = some o) : Cn yX12_seen cX12_seen 6 (some .int) 7 [.ref a0, .int a1, .int a2, .int a3] M (some (.int o.1)) o.2 := by
  unfold F_X12_seen at h
  refine Cn.of rfl (Nat.le_of_ble_eq_true rfl) ?_
  show G yX12_seen cX12_seen 6 (some .int) 7 0 [(0, .ref a0), (1, .int a1), (2, .int a2), (3, .int a3)] [] M (some (.int o.1)) o.2
  refine G.aload_n dX12_seen_0 rfl rfl ?_
  refine G.iload_n dX12_seen_1 rfl rfl ?_
  refine G.callVi (ci := 12) [.int a1] [] dX12_seen_2 lkX12_415 okX12_isPerson rfl (fun v hv => C_X12_isPerson hv) (Nat.le_of_ble_eq_true rfl) rfl rfl (Nat.le_of_ble_eq_true rfl) h (fun v1 h => ?_)
  refine G.if_eq 28 dX12_seen_5 (by decide) h (fun c2 h => ?_) (fun c2 h => ?_)
  · refine G.iconst (-1 : Int32) dX12_seen_28 ki_m1 ?_
    exact G.iretW dX12_seen_29 rfl (rfl) h
  · refine G.aload_n dX12_seen_8 rfl rfl ?_
    refine G.iload_n dX12_seen_9 rfl rfl ?_
    refine G.callVi (ci := 12) [.int a2] [] dX12_seen_10 lkX12_415 okX12_isPerson rfl (fun v hv => C_X12_isPerson hv) (Nat.le_of_ble_eq_true rfl) rfl rfl (Nat.le_of_ble_eq_true rfl) h (fun v3 h => ?_)
    refine G.if_eq 28 dX12_seen_13 (by decide) h (fun c4 h => ?_) (fun c4 h => ?_)
    · refine G.iconst (-1 : Int32) dX12_seen_28 ki_m1 ?_
      exact G.iretW dX12_seen_29 rfl (rfl) h
    · refine G.iload_n dX12_seen_16 rfl rfl ?_
      refine G.iload_n dX12_seen_17 rfl rfl ?_
      refine G.icmp_eq 28 dX12_seen_18 (by decide) h (fun c5 h => ?_) (fun c5 h => ?_)
      · refine G.iconst (-1 : Int32) dX12_seen_28 ki_m1 ?_
        exact G.iretW dX12_seen_29 rfl (rfl) h
      · refine G.iload_n dX12_seen_21 rfl rfl ?_
        refine G.callSi [.int a3] [] dX12_seen_22 lkX12_478 okX12_isEnd (fun v hv => C_X12_isEnd hv) (Nat.le_of_ble_eq_true rfl) rfl rfl (Nat.le_of_ble_eq_true rfl) h (fun v6 h => ?_)
        refine G.if_ne 30 dX12_seen_25 (by decide) h (fun c7 h => ?_) (fun c7 h => ?_)
        · refine G.iconst (-1 : Int32) dX12_seen_28 ki_m1 ?_
          exact G.iretW dX12_seen_29 rfl (rfl) h
        · refine G.aload_n dX12_seen_30 rfl rfl ?_
          refine G.callVv (ci := 12) [] [] dX12_seen_31 lkX12_472 okX12_goesAsTold rfl (fun v hv => C_X12_goesAsTold hv) (Nat.le_of_ble_eq_true rfl) rfl rfl (Nat.le_of_ble_eq_true rfl) h (fun M9 h => ?_)
          refine G.iconst (0 : Int32) dX12_seen_34 ki_0 ?_
          refine G.istore (lv' := [(4, .int (0 : Int32)), (0, .ref a0), (1, .int a1), (2, .int a2), (3, .int a3)]) dX12_seen_35 (Nat.le_of_ble_eq_true rfl) rfl ?_
          refine G.iconst (0 : Int32) dX12_seen_37 ki_0 ?_
          refine G.istore (lv' := [(5, .int (0 : Int32)), (4, .int (0 : Int32)), (0, .ref a0), (1, .int a1), (2, .int a2), (3, .int a3)]) dX12_seen_38 (Nat.le_of_ble_eq_true rfl) rfl ?_
          refine G.sub (lv' := [(0, .ref a0), (1, .int a1), (2, .int a2), (3, .int a3), (4, .int (0 : Int32)), (5, .int (0 : Int32))]) [2, 3, 4, 5, 1, 0] rfl ?_
          refine loopE (fun (s10 : Int32 × Int32) => G yX12_seen cX12_seen 6 (some .int) 7 40 [(0, .ref a0), (1, .int a1), (2, .int a2), (3, .int a3), (4, .int s10.1), (5, .int s10.2)] [] M9 (some (.int o.1)) o.2) (fun (e10 : Int32) => G yX12_seen cX12_seen 6 (some .int) 7 86 [(4, .int e10)] [] M9 (some (.int o.1)) o.2) h ?_ ?_
          · intro e10 h
            show G yX12_seen cX12_seen 6 (some .int) 7 86 [(4, .int e10)] [] M9 (some (.int o.1)) o.2
            refine G.iload dX12_seen_86 rfl ?_
            exact G.iretW dX12_seen_88 rfl (rfl) h
          · intro s10 x10 h K10
            show G yX12_seen cX12_seen 6 (some .int) 7 40 [(0, .ref a0), (1, .int a1), (2, .int a2), (3, .int a3), (4, .int s10.1), (5, .int s10.2)] [] M9 (some (.int o.1)) o.2
            refine G.iload dX12_seen_40 rfl ?_
            refine G.aload_n dX12_seen_42 rfl rfl ?_
            refine G.iconst (2 : Int32) dX12_seen_43 ki_2 ?_
            refine G.callVi (ci := 12) [.int (2 : Int32)] [.int s10.2] dX12_seen_44 lkX12_383 okX12_has rfl (fun v hv => C_X12_has hv) (Nat.le_of_ble_eq_true rfl) rfl rfl (Nat.le_of_ble_eq_true rfl) h (fun v11 h => ?_)
            refine G.icmp_ge 86 dX12_seen_47 (by decide) h (fun c12 h => ?_) (fun c12 h => ?_)
            · refine G.sub (lv' := [(4, .int s10.1)]) [4] rfl ?_
              have h := leafR' h K10
              exact h
            · refine G.aload_n dX12_seen_50 rfl rfl ?_
              refine G.getR dX12_seen_51 fkX12_170 fr12_70 h (fun v13 h => ?_)
              refine G.bipush (60 : Int32) dX12_seen_54 kb_60 ?_
              refine G.iload_n dX12_seen_56 rfl rfl ?_
              refine G.imul dX12_seen_57 ?_
              refine G.bipush (6 : Int32) dX12_seen_58 kb_6 ?_
              refine G.iload_n dX12_seen_60 rfl rfl ?_
              refine G.imul dX12_seen_61 ?_
              refine G.iadd dX12_seen_62 ?_
              refine G.iload dX12_seen_63 rfl ?_
              refine G.iadd dX12_seen_65 ?_
              refine G.iald dX12_seen_66 h (fun v14 h => ?_)
              refine G.iload_n dX12_seen_67 rfl rfl ?_
              refine jn_elim (fun j16 => ∀ (u15 : Int32), j16 u15 = some x10 → G yX12_seen cX12_seen 6 (some .int) 7 80 [(0, .ref a0), (1, .int a1), (2, .int a2), (3, .int a3), (4, .int u15), (5, .int s10.2)] [] M9 (some (.int o.1)) o.2) h ?_ ?_
              · intro u15 h
                refine G.iinc s10.2 (w := (s10.2 + (1 : Int32))) (lv' := [(5, .int (s10.2 + (1 : Int32))), (0, .ref a0), (1, .int a1), (2, .int a2), (3, .int a3), (4, .int u15)]) dX12_seen_80 rfl rfl (Nat.le_of_ble_eq_true rfl) rfl ?_
                refine G.goto 40 dX12_seen_83 (by decide) ?_
                refine G.sub (lv' := [(0, .ref a0), (1, .int a1), (2, .int a2), (3, .int a3), (4, .int u15), (5, .int (s10.2 + (1 : Int32)))]) [1, 2, 3, 4, 5, 0] rfl ?_
                have h := leafL' h K10
                exact h
              · intro j16 Jj16 h
                refine G.icmp_gt 80 dX12_seen_68 (by decide) h (fun c17 h => ?_) (fun c17 h => ?_)
                · refine G.sub (lv' := [(0, .ref a0), (1, .int a1), (2, .int a2), (3, .int a3), (4, .int s10.1), (5, .int s10.2)]) [0, 1, 2, 3, 4, 5] rfl ?_
                  exact Jj16 _ h
                · refine G.iload dX12_seen_71 rfl ?_
                  refine G.iconst (1 : Int32) dX12_seen_73 ki_1 ?_
                  refine G.iload dX12_seen_74 rfl ?_
                  refine G.ishl dX12_seen_76 ?_
                  refine G.ior dX12_seen_77 ?_
                  refine G.istore (lv' := [(4, .int (s10.1 ||| ((1 : Int32) <<< (s10.2 &&& 31)))), (0, .ref a0), (1, .int a1), (2, .int a2), (3, .int a3), (5, .int s10.2)]) dX12_seen_78 (Nat.le_of_ble_eq_true rfl) rfl ?_
                  refine G.sub (lv' := [(0, .ref a0), (1, .int a1), (2, .int a2), (3, .int a3), (4, .int (s10.1 ||| ((1 : Int32) <<< (s10.2 &&& 31)))), (5, .int s10.2)]) [1, 2, 3, 4, 0, 5] rfl ?_
                  exact Jj16 _ h
-- OnlyUpwardModel.isSoon(IIII)Z
set_option maxRecDepth 100000 in
set_option maxHeartbeats 4000000 in
def F_X12_isSoon (n : Nat) (M : AM) (a0 : Nat) (a1 : Int32) (a2 : Int32) (a3 : Int32) (a4 : Int32) : Option Int32 :=
  (rcv 12 M a0 (F_X12_isThing n M a0 a1)).bind fun v1 => if v1 = 0 then some (0 : Int32) else (rcv 12 M a0 (F_X12_has n M a0 (1 : Int32))).bind fun v3 => (F_X12_in n M a2 (0 : Int32) (((1 : Int32) <<< (v3 &&& 31)) - (1 : Int32))).bind fun v4 => if v4 = 0 then some (0 : Int32) else (F_X12_isHour n M a3).bind fun v6 => if v6 = 0 then some (0 : Int32) else (F_X12_in n M a4 (0 : Int32) (3 : Int32)).bind fun v8 => if v8 = 0 then some (0 : Int32) else some (1 : Int32)
set_option maxRecDepth 100000 in
set_option maxHeartbeats 4000000 in
theorem C_X12_isSoon {n : Nat} {M : AM} {a0 : Nat} {a1 : Int32} {a2 : Int32} {a3 : Int32} {a4 : Int32} {o : Int32} (h : F_X12_isSoon n M a0 a1 a2 a3 a4 = some o) : Cn yX12_isSoon cX12_isSoon 5 (some .boolean) 2 [.ref a0, .int a1, .int a2, .int a3, .int a4] M (some (.int o)) M := by
  unfold F_X12_isSoon at h
  refine Cn.of rfl (Nat.le_of_ble_eq_true rfl) ?_
  show G yX12_isSoon cX12_isSoon 5 (some .boolean) 2 0 [(0, .ref a0), (1, .int a1), (2, .int a2), (3, .int a3), (4, .int a4)] [] M (some (.int o)) M
  refine G.aload_n dX12_isSoon_0 rfl rfl ?_
  refine G.iload_n dX12_isSoon_1 rfl rfl ?_
  refine G.callVi (ci := 12) [.int a1] [] dX12_isSoon_2 lkX12_434 okX12_isThing rfl (fun v hv => C_X12_isThing hv) (Nat.le_of_ble_eq_true rfl) rfl rfl (Nat.le_of_ble_eq_true rfl) h (fun v1 h => ?_)
  refine G.if_eq 46 dX12_isSoon_5 (by decide) h (fun c2 h => ?_) (fun c2 h => ?_)
  · refine G.iconst (0 : Int32) dX12_isSoon_46 ki_0 ?_
    exact G.iret dX12_isSoon_47 rfl (by decide) h
  · refine G.iload_n dX12_isSoon_8 rfl rfl ?_
    refine G.iconst (0 : Int32) dX12_isSoon_9 ki_0 ?_
    refine G.iconst (1 : Int32) dX12_isSoon_10 ki_1 ?_
    refine G.aload_n dX12_isSoon_11 rfl rfl ?_
    refine G.iconst (1 : Int32) dX12_isSoon_12 ki_1 ?_
    refine G.callVi (ci := 12) [.int (1 : Int32)] [.int (1 : Int32), .int (0 : Int32), .int a2] dX12_isSoon_13 lkX12_383 okX12_has rfl (fun v hv => C_X12_has hv) (Nat.le_of_ble_eq_true rfl) rfl rfl (Nat.le_of_ble_eq_true rfl) h (fun v3 h => ?_)
    refine G.ishl dX12_isSoon_16 ?_
    refine G.iconst (1 : Int32) dX12_isSoon_17 ki_1 ?_
    refine G.isub dX12_isSoon_18 ?_
    refine G.callSi [.int a2, .int (0 : Int32), .int (((1 : Int32) <<< (v3 &&& 31)) - (1 : Int32))] [] dX12_isSoon_19 lkX12_386 okX12_in (fun v hv => C_X12_in hv) (Nat.le_of_ble_eq_true rfl) rfl rfl (Nat.le_of_ble_eq_true rfl) h (fun v4 h => ?_)
    refine G.if_eq 46 dX12_isSoon_22 (by decide) h (fun c5 h => ?_) (fun c5 h => ?_)
    · refine G.iconst (0 : Int32) dX12_isSoon_46 ki_0 ?_
      exact G.iret dX12_isSoon_47 rfl (by decide) h
    · refine G.iload_n dX12_isSoon_25 rfl rfl ?_
      refine G.callSi [.int a3] [] dX12_isSoon_26 lkX12_418 okX12_isHour (fun v hv => C_X12_isHour hv) (Nat.le_of_ble_eq_true rfl) rfl rfl (Nat.le_of_ble_eq_true rfl) h (fun v6 h => ?_)
      refine G.if_eq 46 dX12_isSoon_29 (by decide) h (fun c7 h => ?_) (fun c7 h => ?_)
      · refine G.iconst (0 : Int32) dX12_isSoon_46 ki_0 ?_
        exact G.iret dX12_isSoon_47 rfl (by decide) h
      · refine G.iload dX12_isSoon_32 rfl ?_
        refine G.iconst (0 : Int32) dX12_isSoon_34 ki_0 ?_
        refine G.iconst (3 : Int32) dX12_isSoon_35 ki_3 ?_
        refine G.callSi [.int a4, .int (0 : Int32), .int (3 : Int32)] [] dX12_isSoon_36 lkX12_386 okX12_in (fun v hv => C_X12_in hv) (Nat.le_of_ble_eq_true rfl) rfl rfl (Nat.le_of_ble_eq_true rfl) h (fun v8 h => ?_)
        refine G.if_eq 46 dX12_isSoon_39 (by decide) h (fun c9 h => ?_) (fun c9 h => ?_)
        · refine G.iconst (0 : Int32) dX12_isSoon_46 ki_0 ?_
          exact G.iret dX12_isSoon_47 rfl (by decide) h
        · refine G.iconst (1 : Int32) dX12_isSoon_42 ki_1 ?_
          refine G.goto 47 dX12_isSoon_43 (by decide) ?_
          exact G.iret dX12_isSoon_47 rfl (by decide) h
-- OnlyUpwardModel.isShown(I)Z
set_option maxRecDepth 100000 in
set_option maxHeartbeats 4000000 in
def F_X12_isShown (n : Nat) (M : AM) (a0 : Nat) (a1 : Int32) : Option Int32 :=
  (iter (fun (s1 : Int32) => (rcv 12 M a0 (F_X12_has n M a0 (7 : Int32))).bind fun v2 => if v2 ≤ s1 then some (.inr (.inl ())) else (gR 12 40 M a0).bind fun v4 => (gI 12 18 M a0).bind fun v5 => (rdI M v4 (((6 : Int32) * v5) + s1)).bind fun v6 => if v6 = a1 then some (.inr (.inr (1 : Int32))) else some (.inl (s1 + (1 : Int32)))) n (0 : Int32)).bind fun (z1 : (Unit) ⊕ Int32) => Sum.elim (fun (e1 : Unit) => some (0 : Int32)) (fun (v : Int32) => some v) z1
set_option maxRecDepth 100000 in
set_option maxHeartbeats 4000000 in
theorem C_X12_isShown {n : Nat} {M : AM} {a0 : Nat} {a1 : Int32} {o : Int32} (h : F_X12_isShown n M a0 a1 = some o) : Cn yX12_isShown cX12_isShown 3 (some .boolean) 1 [.ref a0, .int a1] M (some (.int o)) M := by
  unfold F_X12_isShown at h
  refine Cn.of rfl (Nat.le_of_ble_eq_true rfl) ?_
  show G yX12_isShown cX12_isShown 3 (some .boolean) 1 0 [(0, .ref a0), (1, .int a1)] [] M (some (.int o)) M
  refine G.iconst (0 : Int32) dX12_isShown_0 ki_0 ?_
  refine G.istore_n (lv' := [(2, .int (0 : Int32)), (0, .ref a0), (1, .int a1)]) dX12_isShown_1 rfl (Nat.le_of_ble_eq_true rfl) rfl ?_
  refine G.sub (lv' := [(0, .ref a0), (1, .int a1), (2, .int (0 : Int32))]) [1, 2, 0] rfl ?_
  refine loopE (fun (s1 : Int32) => G yX12_isShown cX12_isShown 3 (some .boolean) 1 2 [(0, .ref a0), (1, .int a1), (2, .int s1)] [] M (some (.int o)) M) (fun (z1 : (Unit) ⊕ Int32) => Sum.elim (fun (e1 : Unit) => G yX12_isShown cX12_isShown 3 (some .boolean) 1 38 [] [] M (some (.int o)) M) (fun (v : Int32) => some v = some o) z1) h ?_ ?_
  · intro z1 h
    rcases z1 with e1 | v
    · have h := sum_inl h
      show G yX12_isShown cX12_isShown 3 (some .boolean) 1 38 [] [] M (some (.int o)) M
      refine G.iconst (0 : Int32) dX12_isShown_38 ki_0 ?_
      exact G.iret dX12_isShown_39 rfl (by decide) h
    · have h := sum_inr h
      exact h
  · intro s1 x1 h K1
    show G yX12_isShown cX12_isShown 3 (some .boolean) 1 2 [(0, .ref a0), (1, .int a1), (2, .int s1)] [] M (some (.int o)) M
    refine G.iload_n dX12_isShown_2 rfl rfl ?_
    refine G.aload_n dX12_isShown_3 rfl rfl ?_
    refine G.bipush (7 : Int32) dX12_isShown_4 kb_7 ?_
    refine G.callVi (ci := 12) [.int (7 : Int32)] [.int s1] dX12_isShown_6 lkX12_383 okX12_has rfl (fun v hv => C_X12_has hv) (Nat.le_of_ble_eq_true rfl) rfl rfl (Nat.le_of_ble_eq_true rfl) h (fun v2 h => ?_)
    refine G.icmp_ge 38 dX12_isShown_9 (by decide) h (fun c3 h => ?_) (fun c3 h => ?_)
    · refine G.sub (lv' := []) [] rfl ?_
      have h := leafR' h K1
      exact h
    · refine G.aload_n dX12_isShown_12 rfl rfl ?_
      refine G.getR dX12_isShown_13 fkX12_97 fr12_40 h (fun v4 h => ?_)
      refine G.bipush (6 : Int32) dX12_isShown_16 kb_6 ?_
      refine G.aload_n dX12_isShown_18 rfl rfl ?_
      refine G.getI dX12_isShown_19 fkX12_290 fr12_18 h (fun v5 h => ?_)
      refine G.imul dX12_isShown_22 ?_
      refine G.iload_n dX12_isShown_23 rfl rfl ?_
      refine G.iadd dX12_isShown_24 ?_
      refine G.iald dX12_isShown_25 h (fun v6 h => ?_)
      refine G.iload_n dX12_isShown_26 rfl rfl ?_
      refine G.icmp_ne 32 dX12_isShown_27 (by decide) h (fun c7 h => ?_) (fun c7 h => ?_)
      · refine G.iconst (1 : Int32) dX12_isShown_30 ki_1 ?_
        have h := leafR' h K1
        exact G.iret dX12_isShown_31 rfl (by decide) h
      · refine G.iinc s1 (w := (s1 + (1 : Int32))) (lv' := [(2, .int (s1 + (1 : Int32))), (0, .ref a0), (1, .int a1)]) dX12_isShown_32 rfl rfl (Nat.le_of_ble_eq_true rfl) rfl ?_
        refine G.goto 2 dX12_isShown_35 (by decide) ?_
        refine G.sub (lv' := [(0, .ref a0), (1, .int a1), (2, .int (s1 + (1 : Int32)))]) [1, 2, 0] rfl ?_
        have h := leafL' h K1
        exact h
-- OnlyUpwardModel.speaks(III)Z
set_option maxRecDepth 100000 in
set_option maxHeartbeats 4000000 in
def F_X12_speaks (n : Nat) (M : AM) (a0 : Nat) (a1 : Int32) (a2 : Int32) (a3 : Int32) : Option (Int32 × AM) :=
  (iter (fun (s1 : Int32 × AM) => (rcv 12 s1.2 a0 (F_X12_has n s1.2 a0 (1 : Int32))).bind fun v2 => if v2 ≤ s1.1 then some (.inr (.inl s1.2)) else (rcv 12 s1.2 a0 (F_X12_mayBy n s1.2 a0 a1 s1.1 a2 (0 : Int32) a3)).bind fun v4 => if v4.1 = 0 then some (.inl ((s1.1 + (1 : Int32)), v4.2)) else some (.inr (.inr ((1 : Int32), v4.2)))) n ((0 : Int32), M)).bind fun (z1 : (AM) ⊕ (Int32 × AM)) => Sum.elim (fun (e1 : AM) => some ((0 : Int32), e1)) (fun (v : (Int32 × AM)) => some v) z1
set_option maxRecDepth 100000 in
set_option maxHeartbeats 4000000 in
theorem C_X12_speaks {n : Nat} {M : AM} {a0 : Nat} {a1 : Int32} {a2 : Int32} {a3 : Int32} {o : (Int32 × AM)} (h : F_X12_speaks n M a0 a1 a2 a3 = some o) : Cn yX12_speaks cX12_speaks 5 (some .boolean) 4 [.ref a0, .int a1, .int a2, .int a3] M (some (.int o.1)) o.2 := by
  unfold F_X12_speaks at h
  refine Cn.of rfl (Nat.le_of_ble_eq_true rfl) ?_
  show G yX12_speaks cX12_speaks 5 (some .boolean) 4 0 [(0, .ref a0), (1, .int a1), (2, .int a2), (3, .int a3)] [] M (some (.int o.1)) o.2
  refine G.iconst (0 : Int32) dX12_speaks_0 ki_0 ?_
  refine G.istore (lv' := [(4, .int (0 : Int32)), (0, .ref a0), (1, .int a1), (2, .int a2), (3, .int a3)]) dX12_speaks_1 (Nat.le_of_ble_eq_true rfl) rfl ?_
  refine G.sub (lv' := [(0, .ref a0), (1, .int a1), (2, .int a2), (3, .int a3), (4, .int (0 : Int32))]) [1, 2, 3, 4, 0] rfl ?_
  refine loopE (fun (s1 : Int32 × AM) => G yX12_speaks cX12_speaks 5 (some .boolean) 4 3 [(0, .ref a0), (1, .int a1), (2, .int a2), (3, .int a3), (4, .int s1.1)] [] s1.2 (some (.int o.1)) o.2) (fun (z1 : (AM) ⊕ (Int32 × AM)) => Sum.elim (fun (e1 : AM) => G yX12_speaks cX12_speaks 5 (some .boolean) 4 34 [] [] e1 (some (.int o.1)) o.2) (fun (v : (Int32 × AM)) => some v = some o) z1) h ?_ ?_
  · intro z1 h
    rcases z1 with e1 | v
    · have h := sum_inl h
      show G yX12_speaks cX12_speaks 5 (some .boolean) 4 34 [] [] e1 (some (.int o.1)) o.2
      refine G.iconst (0 : Int32) dX12_speaks_34 ki_0 ?_
      exact G.iretW dX12_speaks_35 rfl (by decide) h
    · have h := sum_inr h
      exact h
  · intro s1 x1 h K1
    show G yX12_speaks cX12_speaks 5 (some .boolean) 4 3 [(0, .ref a0), (1, .int a1), (2, .int a2), (3, .int a3), (4, .int s1.1)] [] s1.2 (some (.int o.1)) o.2
    refine G.iload dX12_speaks_3 rfl ?_
    refine G.aload_n dX12_speaks_5 rfl rfl ?_
    refine G.iconst (1 : Int32) dX12_speaks_6 ki_1 ?_
    refine G.callVi (ci := 12) [.int (1 : Int32)] [.int s1.1] dX12_speaks_7 lkX12_383 okX12_has rfl (fun v hv => C_X12_has hv) (Nat.le_of_ble_eq_true rfl) rfl rfl (Nat.le_of_ble_eq_true rfl) h (fun v2 h => ?_)
    refine G.icmp_ge 34 dX12_speaks_10 (by decide) h (fun c3 h => ?_) (fun c3 h => ?_)
    · refine G.sub (lv' := []) [] rfl ?_
      have h := leafR' h K1
      exact h
    · refine G.aload_n dX12_speaks_13 rfl rfl ?_
      refine G.iload_n dX12_speaks_14 rfl rfl ?_
      refine G.iload dX12_speaks_15 rfl ?_
      refine G.iload_n dX12_speaks_17 rfl rfl ?_
      refine G.iconst (0 : Int32) dX12_speaks_18 ki_0 ?_
      refine G.iload_n dX12_speaks_19 rfl rfl ?_
      refine G.callVi (ci := 12) [.int a1, .int s1.1, .int a2, .int (0 : Int32), .int a3] [] dX12_speaks_20 lkX12_427 okX12_mayBy rfl (fun v hv => C_X12_mayBy hv) (Nat.le_of_ble_eq_true rfl) rfl rfl (Nat.le_of_ble_eq_true rfl) h (fun v4 h => ?_)
      refine G.if_eq 28 dX12_speaks_23 (by decide) h (fun c5 h => ?_) (fun c5 h => ?_)
      · refine G.iinc s1.1 (w := (s1.1 + (1 : Int32))) (lv' := [(4, .int (s1.1 + (1 : Int32))), (0, .ref a0), (1, .int a1), (2, .int a2), (3, .int a3)]) dX12_speaks_28 rfl rfl (Nat.le_of_ble_eq_true rfl) rfl ?_
        refine G.goto 3 dX12_speaks_31 (by decide) ?_
        refine G.sub (lv' := [(0, .ref a0), (1, .int a1), (2, .int a2), (3, .int a3), (4, .int (s1.1 + (1 : Int32)))]) [1, 2, 3, 4, 0] rfl ?_
        have h := leafL' h K1
        exact h
      · refine G.iconst (1 : Int32) dX12_speaks_26 ki_1 ?_
        have h := leafR' h K1
        exact G.iretW dX12_speaks_27 rfl (by decide) h
-- OnlyUpwardModel.spreads(IIIIZ)V
set_option maxRecDepth 100000 in
set_option maxHeartbeats 4000000 in
def F_X12_spreads (n : Nat) (M : AM) (a0 : Nat) (a1 : Int32) (a2 : Int32) (a3 : Int32) (a4 : Int32) (a5 : Int32) : Option AM :=
  (pI 12 61 M a0 (0 : Int32)).bind fun M1 => jn (fun (u2 : Int32) => (gR 12 74 M1 a0).bind fun v3 => (wrI M1 v3 a3 a2).bind fun M4 => (iter (fun (s5 : Int32 × Int32 × AM) => if (24 : Int32) ≤ s5.2.1 then some (.inr s5.2.2) else (gR 12 74 s5.2.2 a0).bind fun v7 => (rdI s5.2.2 v7 s5.2.1).bind fun v8 => (iter (fun (s9 : Int32 × Int32) => (rcv 12 s5.2.2 a0 (F_X12_has n s5.2.2 a0 (0 : Int32))).bind fun v10 => if v10 ≤ s9.2 then some (.inr s9.1) else if a5 = 0 then jn (fun (u13 : Int32) => some (.inl (u13, (s9.2 + (1 : Int32))))) fun j14 => if ((s5.1 >>> (s9.2 &&& 31)) &&& (1 : Int32)) = (1 : Int32) then (rcv 12 s5.2.2 a0 (F_X12_crowdAt n s5.2.2 a0 s9.2 s5.2.1)).bind fun v16 => j14 (s9.1 ||| v16) else j14 s9.1 else some (.inr s9.1)) n (v8, (0 : Int32))).bind fun (e9 : Int32) => (iter (fun (s17 : Int32 × Int32 × Int32 × AM) => (rcv 12 s17.2.2.2 a0 (F_X12_has n s17.2.2.2 a0 (1 : Int32))).bind fun v18 => if v18 ≤ s17.2.2.1 then some (.inr (s17.1, s17.2.1, s17.2.2.2)) else (rcv 12 s17.2.2.2 a0 (F_X12_placeOf n s17.2.2.2 a0 s17.2.2.1 s5.2.1)).bind fun v20 => jn (fun (u21 : Int32) (u22 : Int32) (M23 : AM) => some (.inl (u21, u22, (s17.2.2.1 + (1 : Int32)), M23))) fun j24 => if ((v8 >>> (s17.2.2.1 &&& 31)) &&& (1 : Int32)) = 0 then j24 s17.1 s17.2.1 s17.2.2.2 else if 0 ≤ v20 then (rcv 12 s17.2.2.2 a0 (F_X12_speaks n s17.2.2.2 a0 s17.2.2.1 s5.2.1 a4)).bind fun v27 => jn (fun (u28 : Int32) => jn (fun (u29 : Int32) => j24 u29 (s17.2.1 ||| ((1 : Int32) <<< (v20 &&& 31))) v27.2) fun j30 => if u2 = 0 then j30 u28 else (rcv 12 v27.2 a0 (F_X12_crowdAt n v27.2 a0 v20 s5.2.1)).bind fun v32 => j30 (u28 ||| v32)) fun j33 => if v27.1 = 0 then j33 s17.1 else (rcv 12 v27.2 a0 (F_X12_earshotOf n v27.2 a0 v20 s5.2.1)).bind fun v35 => j33 (s17.1 ||| v35) else j24 s17.1 s17.2.1 s17.2.2.2) n (e9, (0 : Int32), (0 : Int32), s5.2.2)).bind fun (e17 : Int32 × Int32 × AM) => (gR 12 74 e17.2.2 a0).bind fun v36 => (wrI e17.2.2 v36 (s5.2.1 + (1 : Int32)) e17.1).bind fun M37 => some (.inl ((s5.1 ||| e17.2.1), (s5.2.1 + (1 : Int32)), M37))) n ((0 : Int32), a3, M4)).bind fun (e5 : AM) => some e5) fun j38 => jn (j38 (0 : Int32)) fun j39 => if a5 = 0 then (rcv 12 M1 a0 (F_X12_isShown n M1 a0 a1)).bind fun v41 => if v41 = 0 then j39 else j38 (1 : Int32) else j39
set_option maxRecDepth 100000 in
set_option maxHeartbeats 4000000 in
theorem C_X12_spreads {n : Nat} {M : AM} {a0 : Nat} {a1 : Int32} {a2 : Int32} {a3 : Int32} {a4 : Int32} {a5 : Int32} {o : AM} (h : F_X12_spreads n M a0 a1 a2 a3 a4 a5 = some o) : Cn yX12_spreads cX12_spreads 14 none 5 [.ref a0, .int a1, .int a2, .int a3, .int a4, .int a5] M none o := by
  unfold F_X12_spreads at h
  refine Cn.of rfl (Nat.le_of_ble_eq_true rfl) ?_
  show G yX12_spreads cX12_spreads 14 none 5 0 [(0, .ref a0), (1, .int a1), (2, .int a2), (3, .int a3), (4, .int a4), (5, .int a5)] [] M none o
  refine G.aload_n dX12_spreads_0 rfl rfl ?_
  refine G.iconst (0 : Int32) dX12_spreads_1 ki_0 ?_
  refine G.putI dX12_spreads_2 fkX12_390 nf12_61 ft12_61 h (fun M1 h => ?_)
  refine G.iconst (0 : Int32) dX12_spreads_5 ki_0 ?_
  refine G.istore (lv' := [(6, .int (0 : Int32)), (0, .ref a0), (1, .int a1), (2, .int a2), (3, .int a3), (4, .int a4), (5, .int a5)]) dX12_spreads_6 (Nat.le_of_ble_eq_true rfl) rfl ?_
  refine G.iload dX12_spreads_8 rfl ?_
  refine jn_elim (fun j38 => ∀ (u2 : Int32), j38 u2 = some o → G yX12_spreads cX12_spreads 14 none 5 26 [(0, .ref a0), (2, .int a2), (3, .int a3), (4, .int a4), (5, .int a5), (6, .int (0 : Int32))] [.int u2] M1 none o) h ?_ ?_
  · intro u2 h
    refine G.istore (lv' := [(7, .int u2), (0, .ref a0), (2, .int a2), (3, .int a3), (4, .int a4), (5, .int a5), (6, .int (0 : Int32))]) dX12_spreads_26 (Nat.le_of_ble_eq_true rfl) rfl ?_
    refine G.aload_n dX12_spreads_28 rfl rfl ?_
    refine G.getR dX12_spreads_29 fkX12_179 fr12_74 h (fun v3 h => ?_)
    refine G.iload_n dX12_spreads_32 rfl rfl ?_
    refine G.iload_n dX12_spreads_33 rfl rfl ?_
    refine G.iast dX12_spreads_34 h (fun M4 h => ?_)
    refine G.iload_n dX12_spreads_35 rfl rfl ?_
    refine G.istore (lv' := [(8, .int a3), (7, .int u2), (0, .ref a0), (2, .int a2), (3, .int a3), (4, .int a4), (5, .int a5), (6, .int (0 : Int32))]) dX12_spreads_36 (Nat.le_of_ble_eq_true rfl) rfl ?_
    refine G.sub (lv' := [(0, .ref a0), (4, .int a4), (5, .int a5), (6, .int (0 : Int32)), (7, .int u2), (8, .int a3)]) [2, 5, 6, 7, 1, 0] rfl ?_
    refine loopE (fun (s5 : Int32 × Int32 × AM) => G yX12_spreads cX12_spreads 14 none 5 38 [(0, .ref a0), (4, .int a4), (5, .int a5), (6, .int s5.1), (7, .int u2), (8, .int s5.2.1)] [] s5.2.2 none o) (fun (e5 : AM) => G yX12_spreads cX12_spreads 14 none 5 233 [] [] e5 none o) h ?_ ?_
    · intro e5 h
      show G yX12_spreads cX12_spreads 14 none 5 233 [] [] e5 none o
      exact G.vretW dX12_spreads_233 rfl h
    · intro s5 x5 h K5
      show G yX12_spreads cX12_spreads 14 none 5 38 [(0, .ref a0), (4, .int a4), (5, .int a5), (6, .int s5.1), (7, .int u2), (8, .int s5.2.1)] [] s5.2.2 none o
      refine G.iload dX12_spreads_38 rfl ?_
      refine G.bipush (24 : Int32) dX12_spreads_40 kb_24 ?_
      refine G.icmp_ge 233 dX12_spreads_42 (by decide) h (fun c6 h => ?_) (fun c6 h => ?_)
      · refine G.sub (lv' := []) [] rfl ?_
        have h := leafR' h K5
        exact h
      · refine G.aload_n dX12_spreads_45 rfl rfl ?_
        refine G.getR dX12_spreads_46 fkX12_179 fr12_74 h (fun v7 h => ?_)
        refine G.iload dX12_spreads_49 rfl ?_
        refine G.iald dX12_spreads_51 h (fun v8 h => ?_)
        refine G.istore (lv' := [(9, .int v8), (0, .ref a0), (4, .int a4), (5, .int a5), (6, .int s5.1), (7, .int u2), (8, .int s5.2.1)]) dX12_spreads_52 (Nat.le_of_ble_eq_true rfl) rfl ?_
        refine G.iload dX12_spreads_54 rfl ?_
        refine G.istore (lv' := [(10, .int v8), (9, .int v8), (0, .ref a0), (4, .int a4), (5, .int a5), (6, .int s5.1), (7, .int u2), (8, .int s5.2.1)]) dX12_spreads_56 (Nat.le_of_ble_eq_true rfl) rfl ?_
        refine G.iconst (0 : Int32) dX12_spreads_58 ki_0 ?_
        refine G.istore (lv' := [(11, .int (0 : Int32)), (10, .int v8), (9, .int v8), (0, .ref a0), (4, .int a4), (5, .int a5), (6, .int s5.1), (7, .int u2), (8, .int s5.2.1)]) dX12_spreads_59 (Nat.le_of_ble_eq_true rfl) rfl ?_
        refine G.iconst (0 : Int32) dX12_spreads_61 ki_0 ?_
        refine G.istore (lv' := [(12, .int (0 : Int32)), (11, .int (0 : Int32)), (10, .int v8), (9, .int v8), (0, .ref a0), (4, .int a4), (5, .int a5), (6, .int s5.1), (7, .int u2), (8, .int s5.2.1)]) dX12_spreads_62 (Nat.le_of_ble_eq_true rfl) rfl ?_
        refine G.sub (lv' := [(0, .ref a0), (4, .int a4), (5, .int a5), (6, .int s5.1), (7, .int u2), (8, .int s5.2.1), (9, .int v8), (10, .int v8), (11, .int (0 : Int32)), (12, .int (0 : Int32))]) [4, 5, 6, 7, 8, 9, 3, 2, 1, 0] rfl ?_
        refine loopE (fun (s9 : Int32 × Int32) => G yX12_spreads cX12_spreads 14 none 5 64 [(0, .ref a0), (4, .int a4), (5, .int a5), (6, .int s5.1), (7, .int u2), (8, .int s5.2.1), (9, .int v8), (10, .int s9.1), (11, .int (0 : Int32)), (12, .int s9.2)] [] s5.2.2 none o) (fun (e9 : Int32) => G yX12_spreads cX12_spreads 14 none 5 109 [(0, .ref a0), (4, .int a4), (5, .int a5), (6, .int s5.1), (7, .int u2), (8, .int s5.2.1), (9, .int v8), (10, .int e9), (11, .int (0 : Int32))] [] s5.2.2 none o) h ?_ ?_
        · intro e9 h
          show G yX12_spreads cX12_spreads 14 none 5 109 [(0, .ref a0), (4, .int a4), (5, .int a5), (6, .int s5.1), (7, .int u2), (8, .int s5.2.1), (9, .int v8), (10, .int e9), (11, .int (0 : Int32))] [] s5.2.2 none o
          refine G.iconst (0 : Int32) dX12_spreads_109 ki_0 ?_
          refine G.istore (lv' := [(12, .int (0 : Int32)), (0, .ref a0), (4, .int a4), (5, .int a5), (6, .int s5.1), (7, .int u2), (8, .int s5.2.1), (9, .int v8), (10, .int e9), (11, .int (0 : Int32))]) dX12_spreads_110 (Nat.le_of_ble_eq_true rfl) rfl ?_
          refine G.sub (lv' := [(0, .ref a0), (4, .int a4), (5, .int a5), (6, .int s5.1), (7, .int u2), (8, .int s5.2.1), (9, .int v8), (10, .int e9), (11, .int (0 : Int32)), (12, .int (0 : Int32))]) [1, 2, 3, 4, 5, 6, 7, 8, 9, 0] rfl ?_
          refine loopE (fun (s17 : Int32 × Int32 × Int32 × AM) => G yX12_spreads cX12_spreads 14 none 5 112 [(0, .ref a0), (4, .int a4), (5, .int a5), (6, .int s5.1), (7, .int u2), (8, .int s5.2.1), (9, .int v8), (10, .int s17.1), (11, .int s17.2.1), (12, .int s17.2.2.1)] [] s17.2.2.2 none o) (fun (e17 : Int32 × Int32 × AM) => G yX12_spreads cX12_spreads 14 none 5 209 [(0, .ref a0), (4, .int a4), (5, .int a5), (6, .int s5.1), (7, .int u2), (8, .int s5.2.1), (10, .int e17.1), (11, .int e17.2.1)] [] e17.2.2 none o) h ?_ ?_
          · intro e17 h
            show G yX12_spreads cX12_spreads 14 none 5 209 [(0, .ref a0), (4, .int a4), (5, .int a5), (6, .int s5.1), (7, .int u2), (8, .int s5.2.1), (10, .int e17.1), (11, .int e17.2.1)] [] e17.2.2 none o
            refine G.iload dX12_spreads_209 rfl ?_
            refine G.iload dX12_spreads_211 rfl ?_
            refine G.ior dX12_spreads_213 ?_
            refine G.istore (lv' := [(6, .int (s5.1 ||| e17.2.1)), (0, .ref a0), (4, .int a4), (5, .int a5), (7, .int u2), (8, .int s5.2.1), (10, .int e17.1), (11, .int e17.2.1)]) dX12_spreads_214 (Nat.le_of_ble_eq_true rfl) rfl ?_
            refine G.aload_n dX12_spreads_216 rfl rfl ?_
            refine G.getR dX12_spreads_217 fkX12_179 fr12_74 h (fun v36 h => ?_)
            refine G.iload dX12_spreads_220 rfl ?_
            refine G.iconst (1 : Int32) dX12_spreads_222 ki_1 ?_
            refine G.iadd dX12_spreads_223 ?_
            refine G.iload dX12_spreads_224 rfl ?_
            refine G.iast dX12_spreads_226 h (fun M37 h => ?_)
            refine G.iinc s5.2.1 (w := (s5.2.1 + (1 : Int32))) (lv' := [(8, .int (s5.2.1 + (1 : Int32))), (6, .int (s5.1 ||| e17.2.1)), (0, .ref a0), (4, .int a4), (5, .int a5), (7, .int u2), (10, .int e17.1), (11, .int e17.2.1)]) dX12_spreads_227 rfl rfl (Nat.le_of_ble_eq_true rfl) rfl ?_
            refine G.goto 38 dX12_spreads_230 (by decide) ?_
            refine G.sub (lv' := [(0, .ref a0), (4, .int a4), (5, .int a5), (6, .int (s5.1 ||| e17.2.1)), (7, .int u2), (8, .int (s5.2.1 + (1 : Int32)))]) [2, 3, 4, 1, 5, 0] rfl ?_
            have h := leafL' h K5
            exact h
          · intro s17 x17 h K17
            show G yX12_spreads cX12_spreads 14 none 5 112 [(0, .ref a0), (4, .int a4), (5, .int a5), (6, .int s5.1), (7, .int u2), (8, .int s5.2.1), (9, .int v8), (10, .int s17.1), (11, .int s17.2.1), (12, .int s17.2.2.1)] [] s17.2.2.2 none o
            refine G.iload dX12_spreads_112 rfl ?_
            refine G.aload_n dX12_spreads_114 rfl rfl ?_
            refine G.iconst (1 : Int32) dX12_spreads_115 ki_1 ?_
            refine G.callVi (ci := 12) [.int (1 : Int32)] [.int s17.2.2.1] dX12_spreads_116 lkX12_383 okX12_has rfl (fun v hv => C_X12_has hv) (Nat.le_of_ble_eq_true rfl) rfl rfl (Nat.le_of_ble_eq_true rfl) h (fun v18 h => ?_)
            refine G.icmp_ge 209 dX12_spreads_119 (by decide) h (fun c19 h => ?_) (fun c19 h => ?_)
            · refine G.sub (lv' := [(0, .ref a0), (4, .int a4), (5, .int a5), (6, .int s5.1), (7, .int u2), (8, .int s5.2.1), (10, .int s17.1), (11, .int s17.2.1)]) [0, 1, 2, 3, 4, 5, 7, 8] rfl ?_
              have h := leafR' h K17
              exact h
            · refine G.aload_n dX12_spreads_122 rfl rfl ?_
              refine G.iload dX12_spreads_123 rfl ?_
              refine G.iload dX12_spreads_125 rfl ?_
              refine G.callVi (ci := 12) [.int s17.2.2.1, .int s5.2.1] [] dX12_spreads_127 lkX12_396 okX12_placeOf rfl (fun v hv => C_X12_placeOf hv) (Nat.le_of_ble_eq_true rfl) rfl rfl (Nat.le_of_ble_eq_true rfl) h (fun v20 h => ?_)
              refine G.istore (lv' := [(13, .int v20), (0, .ref a0), (4, .int a4), (5, .int a5), (6, .int s5.1), (7, .int u2), (8, .int s5.2.1), (9, .int v8), (10, .int s17.1), (11, .int s17.2.1), (12, .int s17.2.2.1)]) dX12_spreads_130 (Nat.le_of_ble_eq_true rfl) rfl ?_
              refine G.iload dX12_spreads_132 rfl ?_
              refine G.iload dX12_spreads_134 rfl ?_
              refine G.ishr dX12_spreads_136 ?_
              refine G.iconst (1 : Int32) dX12_spreads_137 ki_1 ?_
              refine G.iand dX12_spreads_138 ?_
              refine jn_elim (fun j24 => ∀ (u21 : Int32) (u22 : Int32) (M23 : AM), j24 u21 u22 M23 = some x17 → G yX12_spreads cX12_spreads 14 none 5 203 [(0, .ref a0), (4, .int a4), (5, .int a5), (6, .int s5.1), (7, .int u2), (8, .int s5.2.1), (9, .int v8), (10, .int u21), (11, .int u22), (12, .int s17.2.2.1)] [] M23 none o) h ?_ ?_
              · intro u21 u22 M23 h
                refine G.iinc s17.2.2.1 (w := (s17.2.2.1 + (1 : Int32))) (lv' := [(12, .int (s17.2.2.1 + (1 : Int32))), (0, .ref a0), (4, .int a4), (5, .int a5), (6, .int s5.1), (7, .int u2), (8, .int s5.2.1), (9, .int v8), (10, .int u21), (11, .int u22)]) dX12_spreads_203 rfl rfl (Nat.le_of_ble_eq_true rfl) rfl ?_
                refine G.goto 112 dX12_spreads_206 (by decide) ?_
                refine G.sub (lv' := [(0, .ref a0), (4, .int a4), (5, .int a5), (6, .int s5.1), (7, .int u2), (8, .int s5.2.1), (9, .int v8), (10, .int u21), (11, .int u22), (12, .int (s17.2.2.1 + (1 : Int32)))]) [1, 2, 3, 4, 5, 6, 7, 8, 9, 0] rfl ?_
                have h := leafL' h K17
                exact h
              · intro j24 Jj24 h
                refine G.if_eq 203 dX12_spreads_139 (by decide) h (fun c25 h => ?_) (fun c25 h => ?_)
                · refine G.sub (lv' := [(0, .ref a0), (4, .int a4), (5, .int a5), (6, .int s5.1), (7, .int u2), (8, .int s5.2.1), (9, .int v8), (10, .int s17.1), (11, .int s17.2.1), (12, .int s17.2.2.1)]) [1, 2, 3, 4, 5, 6, 7, 8, 9, 10] rfl ?_
                  exact Jj24 _ _ _ h
                · refine G.iload dX12_spreads_142 rfl ?_
                  refine G.if_ge 150 dX12_spreads_144 (by decide) h (fun c26 h => ?_) (fun c26 h => ?_)
                  · refine G.aload_n dX12_spreads_150 rfl rfl ?_
                    refine G.iload dX12_spreads_151 rfl ?_
                    refine G.iload dX12_spreads_153 rfl ?_
                    refine G.iload dX12_spreads_155 rfl ?_
                    refine G.callVi (ci := 12) [.int s17.2.2.1, .int s5.2.1, .int a4] [] dX12_spreads_157 lkX12_484 okX12_speaks rfl (fun v hv => C_X12_speaks hv) (Nat.le_of_ble_eq_true rfl) rfl rfl (Nat.le_of_ble_eq_true rfl) h (fun v27 h => ?_)
                    refine jn_elim (fun j33 => ∀ (u28 : Int32), j33 u28 = some x17 → G yX12_spreads cX12_spreads 14 none 5 176 [(0, .ref a0), (4, .int a4), (5, .int a5), (6, .int s5.1), (7, .int u2), (8, .int s5.2.1), (9, .int v8), (10, .int u28), (11, .int s17.2.1), (12, .int s17.2.2.1), (13, .int v20)] [] v27.2 none o) h ?_ ?_
                    · intro u28 h
                      refine G.iload dX12_spreads_176 rfl ?_
                      refine jn_elim (fun j30 => ∀ (u29 : Int32), j30 u29 = some x17 → G yX12_spreads cX12_spreads 14 none 5 194 [(0, .ref a0), (4, .int a4), (5, .int a5), (6, .int s5.1), (7, .int u2), (8, .int s5.2.1), (9, .int v8), (10, .int u29), (11, .int s17.2.1), (12, .int s17.2.2.1), (13, .int v20)] [] v27.2 none o) h ?_ ?_
                      · intro u29 h
                        refine G.iload dX12_spreads_194 rfl ?_
                        refine G.iconst (1 : Int32) dX12_spreads_196 ki_1 ?_
                        refine G.iload dX12_spreads_197 rfl ?_
                        refine G.ishl dX12_spreads_199 ?_
                        refine G.ior dX12_spreads_200 ?_
                        refine G.istore (lv' := [(11, .int (s17.2.1 ||| ((1 : Int32) <<< (v20 &&& 31)))), (0, .ref a0), (4, .int a4), (5, .int a5), (6, .int s5.1), (7, .int u2), (8, .int s5.2.1), (9, .int v8), (10, .int u29), (12, .int s17.2.2.1), (13, .int v20)]) dX12_spreads_201 (Nat.le_of_ble_eq_true rfl) rfl ?_
                        refine G.sub (lv' := [(0, .ref a0), (4, .int a4), (5, .int a5), (6, .int s5.1), (7, .int u2), (8, .int s5.2.1), (9, .int v8), (10, .int u29), (11, .int (s17.2.1 ||| ((1 : Int32) <<< (v20 &&& 31)))), (12, .int s17.2.2.1)]) [1, 2, 3, 4, 5, 6, 7, 8, 0, 9] rfl ?_
                        exact Jj24 _ _ _ h
                      · intro j30 Jj30 h
                        refine G.if_eq 194 dX12_spreads_178 (by decide) h (fun c31 h => ?_) (fun c31 h => ?_)
                        · refine G.sub (lv' := [(0, .ref a0), (4, .int a4), (5, .int a5), (6, .int s5.1), (7, .int u2), (8, .int s5.2.1), (9, .int v8), (10, .int u28), (11, .int s17.2.1), (12, .int s17.2.2.1), (13, .int v20)]) [0, 1, 2, 3, 4, 5, 6, 7, 8, 9, 10] rfl ?_
                          exact Jj30 _ h
                        · refine G.iload dX12_spreads_181 rfl ?_
                          refine G.aload_n dX12_spreads_183 rfl rfl ?_
                          refine G.iload dX12_spreads_184 rfl ?_
                          refine G.iload dX12_spreads_186 rfl ?_
                          refine G.callVi (ci := 12) [.int v20, .int s5.2.1] [.int u28] dX12_spreads_188 lkX12_406 okX12_crowdAt rfl (fun v hv => C_X12_crowdAt hv) (Nat.le_of_ble_eq_true rfl) rfl rfl (Nat.le_of_ble_eq_true rfl) h (fun v32 h => ?_)
                          refine G.ior dX12_spreads_191 ?_
                          refine G.istore (lv' := [(10, .int (u28 ||| v32)), (0, .ref a0), (4, .int a4), (5, .int a5), (6, .int s5.1), (7, .int u2), (8, .int s5.2.1), (9, .int v8), (11, .int s17.2.1), (12, .int s17.2.2.1), (13, .int v20)]) dX12_spreads_192 (Nat.le_of_ble_eq_true rfl) rfl ?_
                          refine G.sub (lv' := [(0, .ref a0), (4, .int a4), (5, .int a5), (6, .int s5.1), (7, .int u2), (8, .int s5.2.1), (9, .int v8), (10, .int (u28 ||| v32)), (11, .int s17.2.1), (12, .int s17.2.2.1), (13, .int v20)]) [1, 2, 3, 4, 5, 6, 7, 0, 8, 9, 10] rfl ?_
                          exact Jj30 _ h
                    · intro j33 Jj33 h
                      refine G.if_eq 176 dX12_spreads_160 (by decide) h (fun c34 h => ?_) (fun c34 h => ?_)
                      · refine G.sub (lv' := [(0, .ref a0), (4, .int a4), (5, .int a5), (6, .int s5.1), (7, .int u2), (8, .int s5.2.1), (9, .int v8), (10, .int s17.1), (11, .int s17.2.1), (12, .int s17.2.2.1), (13, .int v20)]) [1, 2, 3, 4, 5, 6, 7, 8, 9, 10, 0] rfl ?_
                        exact Jj33 _ h
                      · refine G.iload dX12_spreads_163 rfl ?_
                        refine G.aload_n dX12_spreads_165 rfl rfl ?_
                        refine G.iload dX12_spreads_166 rfl ?_
                        refine G.iload dX12_spreads_168 rfl ?_
                        refine G.callVi (ci := 12) [.int v20, .int s5.2.1] [.int s17.1] dX12_spreads_170 lkX12_424 okX12_earshotOf rfl (fun v hv => C_X12_earshotOf hv) (Nat.le_of_ble_eq_true rfl) rfl rfl (Nat.le_of_ble_eq_true rfl) h (fun v35 h => ?_)
                        refine G.ior dX12_spreads_173 ?_
                        refine G.istore (lv' := [(10, .int (s17.1 ||| v35)), (13, .int v20), (0, .ref a0), (4, .int a4), (5, .int a5), (6, .int s5.1), (7, .int u2), (8, .int s5.2.1), (9, .int v8), (11, .int s17.2.1), (12, .int s17.2.2.1)]) dX12_spreads_174 (Nat.le_of_ble_eq_true rfl) rfl ?_
                        refine G.sub (lv' := [(0, .ref a0), (4, .int a4), (5, .int a5), (6, .int s5.1), (7, .int u2), (8, .int s5.2.1), (9, .int v8), (10, .int (s17.1 ||| v35)), (11, .int s17.2.1), (12, .int s17.2.2.1), (13, .int v20)]) [2, 3, 4, 5, 6, 7, 8, 0, 9, 10, 1] rfl ?_
                        exact Jj33 _ h
                  · refine G.goto 203 dX12_spreads_147 (by decide) ?_
                    refine G.sub (lv' := [(0, .ref a0), (4, .int a4), (5, .int a5), (6, .int s5.1), (7, .int u2), (8, .int s5.2.1), (9, .int v8), (10, .int s17.1), (11, .int s17.2.1), (12, .int s17.2.2.1)]) [1, 2, 3, 4, 5, 6, 7, 8, 9, 10] rfl ?_
                    exact Jj24 _ _ _ h
        · intro s9 x9 h K9
          show G yX12_spreads cX12_spreads 14 none 5 64 [(0, .ref a0), (4, .int a4), (5, .int a5), (6, .int s5.1), (7, .int u2), (8, .int s5.2.1), (9, .int v8), (10, .int s9.1), (11, .int (0 : Int32)), (12, .int s9.2)] [] s5.2.2 none o
          refine G.iload dX12_spreads_64 rfl ?_
          refine G.aload_n dX12_spreads_66 rfl rfl ?_
          refine G.iconst (0 : Int32) dX12_spreads_67 ki_0 ?_
          refine G.callVi (ci := 12) [.int (0 : Int32)] [.int s9.2] dX12_spreads_68 lkX12_383 okX12_has rfl (fun v hv => C_X12_has hv) (Nat.le_of_ble_eq_true rfl) rfl rfl (Nat.le_of_ble_eq_true rfl) h (fun v10 h => ?_)
          refine G.icmp_ge 109 dX12_spreads_71 (by decide) h (fun c11 h => ?_) (fun c11 h => ?_)
          · refine G.sub (lv' := [(0, .ref a0), (4, .int a4), (5, .int a5), (6, .int s5.1), (7, .int u2), (8, .int s5.2.1), (9, .int v8), (10, .int s9.1), (11, .int (0 : Int32))]) [0, 1, 2, 3, 4, 5, 6, 7, 8] rfl ?_
            have h := leafR' h K9
            exact h
          · refine G.iload dX12_spreads_74 rfl ?_
            refine G.if_ne 109 dX12_spreads_76 (by decide) h (fun c12 h => ?_) (fun c12 h => ?_)
            · refine G.iload dX12_spreads_79 rfl ?_
              refine G.iload dX12_spreads_81 rfl ?_
              refine G.ishr dX12_spreads_83 ?_
              refine G.iconst (1 : Int32) dX12_spreads_84 ki_1 ?_
              refine G.iand dX12_spreads_85 ?_
              refine G.iconst (1 : Int32) dX12_spreads_86 ki_1 ?_
              refine jn_elim (fun j14 => ∀ (u13 : Int32), j14 u13 = some x9 → G yX12_spreads cX12_spreads 14 none 5 103 [(0, .ref a0), (4, .int a4), (5, .int a5), (6, .int s5.1), (7, .int u2), (8, .int s5.2.1), (9, .int v8), (10, .int u13), (11, .int (0 : Int32)), (12, .int s9.2)] [] s5.2.2 none o) h ?_ ?_
              · intro u13 h
                refine G.iinc s9.2 (w := (s9.2 + (1 : Int32))) (lv' := [(12, .int (s9.2 + (1 : Int32))), (0, .ref a0), (4, .int a4), (5, .int a5), (6, .int s5.1), (7, .int u2), (8, .int s5.2.1), (9, .int v8), (10, .int u13), (11, .int (0 : Int32))]) dX12_spreads_103 rfl rfl (Nat.le_of_ble_eq_true rfl) rfl ?_
                refine G.goto 64 dX12_spreads_106 (by decide) ?_
                refine G.sub (lv' := [(0, .ref a0), (4, .int a4), (5, .int a5), (6, .int s5.1), (7, .int u2), (8, .int s5.2.1), (9, .int v8), (10, .int u13), (11, .int (0 : Int32)), (12, .int (s9.2 + (1 : Int32)))]) [1, 2, 3, 4, 5, 6, 7, 8, 9, 0] rfl ?_
                have h := leafL' h K9
                exact h
              · intro j14 Jj14 h
                refine G.icmp_ne 103 dX12_spreads_87 (by decide) h (fun c15 h => ?_) (fun c15 h => ?_)
                · refine G.iload dX12_spreads_90 rfl ?_
                  refine G.aload_n dX12_spreads_92 rfl rfl ?_
                  refine G.iload dX12_spreads_93 rfl ?_
                  refine G.iload dX12_spreads_95 rfl ?_
                  refine G.callVi (ci := 12) [.int s9.2, .int s5.2.1] [.int s9.1] dX12_spreads_97 lkX12_406 okX12_crowdAt rfl (fun v hv => C_X12_crowdAt hv) (Nat.le_of_ble_eq_true rfl) rfl rfl (Nat.le_of_ble_eq_true rfl) h (fun v16 h => ?_)
                  refine G.ior dX12_spreads_100 ?_
                  refine G.istore (lv' := [(10, .int (s9.1 ||| v16)), (0, .ref a0), (4, .int a4), (5, .int a5), (6, .int s5.1), (7, .int u2), (8, .int s5.2.1), (9, .int v8), (11, .int (0 : Int32)), (12, .int s9.2)]) dX12_spreads_101 (Nat.le_of_ble_eq_true rfl) rfl ?_
                  refine G.sub (lv' := [(0, .ref a0), (4, .int a4), (5, .int a5), (6, .int s5.1), (7, .int u2), (8, .int s5.2.1), (9, .int v8), (10, .int (s9.1 ||| v16)), (11, .int (0 : Int32)), (12, .int s9.2)]) [1, 2, 3, 4, 5, 6, 7, 0, 8, 9] rfl ?_
                  exact Jj14 _ h
                · refine G.sub (lv' := [(0, .ref a0), (4, .int a4), (5, .int a5), (6, .int s5.1), (7, .int u2), (8, .int s5.2.1), (9, .int v8), (10, .int s9.1), (11, .int (0 : Int32)), (12, .int s9.2)]) [0, 1, 2, 3, 4, 5, 6, 7, 8, 9] rfl ?_
                  exact Jj14 _ h
            · refine G.sub (lv' := [(0, .ref a0), (4, .int a4), (5, .int a5), (6, .int s5.1), (7, .int u2), (8, .int s5.2.1), (9, .int v8), (10, .int s9.1), (11, .int (0 : Int32))]) [0, 1, 2, 3, 4, 5, 6, 7, 8] rfl ?_
              have h := leafR' h K9
              exact h
  · intro j38 Jj38 h
    refine jn_elim (fun j39 => j39 = some o → G yX12_spreads cX12_spreads 14 none 5 25 [(0, .ref a0), (2, .int a2), (3, .int a3), (4, .int a4), (5, .int a5), (6, .int (0 : Int32))] [] M1 none o) h ?_ ?_
    · intro h
      refine G.iconst (0 : Int32) dX12_spreads_25 ki_0 ?_
      refine G.sub (lv' := [(0, .ref a0), (2, .int a2), (3, .int a3), (4, .int a4), (5, .int a5), (6, .int (0 : Int32))]) [0, 1, 2, 3, 4, 5] rfl ?_
      exact Jj38 _ h
    · intro j39 Jj39 h
      refine G.if_ne 25 dX12_spreads_10 (by decide) h (fun c40 h => ?_) (fun c40 h => ?_)
      · refine G.aload_n dX12_spreads_13 rfl rfl ?_
        refine G.iload_n dX12_spreads_14 rfl rfl ?_
        refine G.callVi (ci := 12) [.int a1] [] dX12_spreads_15 lkX12_481 okX12_isShown rfl (fun v hv => C_X12_isShown hv) (Nat.le_of_ble_eq_true rfl) rfl rfl (Nat.le_of_ble_eq_true rfl) h (fun v41 h => ?_)
        refine G.if_eq 25 dX12_spreads_18 (by decide) h (fun c42 h => ?_) (fun c42 h => ?_)
        · refine G.sub (lv' := [(0, .ref a0), (2, .int a2), (3, .int a3), (4, .int a4), (5, .int a5), (6, .int (0 : Int32))]) [1, 3, 4, 5, 6, 0] rfl ?_
          exact Jj39  h
        · refine G.iconst (1 : Int32) dX12_spreads_21 ki_1 ?_
          refine G.goto 26 dX12_spreads_22 (by decide) ?_
          refine G.sub (lv' := [(0, .ref a0), (2, .int a2), (3, .int a3), (4, .int a4), (5, .int a5), (6, .int (0 : Int32))]) [1, 3, 4, 5, 6, 0] rfl ?_
          exact Jj38 _ h
      · refine G.sub (lv' := [(0, .ref a0), (2, .int a2), (3, .int a3), (4, .int a4), (5, .int a5), (6, .int (0 : Int32))]) [1, 3, 4, 5, 6, 0] rfl ?_
        exact Jj39  h
-- OnlyUpwardModel.soonOf(II)I
set_option maxRecDepth 100000 in
set_option maxHeartbeats 4000000 in
def F_X12_soonOf (n : Nat) (M : AM) (a0 : Nat) (a1 : Int32) (a2 : Int32) : Option Int32 :=
  (iter (fun (s1 : Int32) => if (25 : Int32) ≤ s1 then some (.inr (.inl ())) else (gR 12 74 M a0).bind fun v3 => (rdI M v3 s1).bind fun v4 => if ((v4 >>> (a1 &&& 31)) &&& (1 : Int32)) = (1 : Int32) then some (.inr (.inr s1)) else some (.inl (s1 + (1 : Int32)))) n a2).bind fun (z1 : (Unit) ⊕ Int32) => Sum.elim (fun (e1 : Unit) => some (-2 : Int32)) (fun (v : Int32) => some v) z1
set_option maxRecDepth 100000 in
set_option maxHeartbeats 4000000 in
theorem C_X12_soonOf {n : Nat} {M : AM} {a0 : Nat} {a1 : Int32} {a2 : Int32} {o : Int32} (h : F_X12_soonOf n M a0 a1 a2 = some o) : Cn yX12_soonOf cX12_soonOf 4 (some .int) 0 [.ref a0, .int a1, .int a2] M (some (.int o)) M := by
  unfold F_X12_soonOf at h
  refine Cn.of rfl (Nat.le_of_ble_eq_true rfl) ?_
  show G yX12_soonOf cX12_soonOf 4 (some .int) 0 0 [(0, .ref a0), (1, .int a1), (2, .int a2)] [] M (some (.int o)) M
  refine G.iload_n dX12_soonOf_0 rfl rfl ?_
  refine G.istore_n (lv' := [(3, .int a2), (0, .ref a0), (1, .int a1), (2, .int a2)]) dX12_soonOf_1 rfl (Nat.le_of_ble_eq_true rfl) rfl ?_
  refine G.sub (lv' := [(0, .ref a0), (1, .int a1), (3, .int a2)]) [1, 2, 0] rfl ?_
  refine loopE (fun (s1 : Int32) => G yX12_soonOf cX12_soonOf 4 (some .int) 0 2 [(0, .ref a0), (1, .int a1), (3, .int s1)] [] M (some (.int o)) M) (fun (z1 : (Unit) ⊕ Int32) => Sum.elim (fun (e1 : Unit) => G yX12_soonOf cX12_soonOf 4 (some .int) 0 30 [] [] M (some (.int o)) M) (fun (v : Int32) => some v = some o) z1) h ?_ ?_
  · intro z1 h
    rcases z1 with e1 | v
    · have h := sum_inl h
      show G yX12_soonOf cX12_soonOf 4 (some .int) 0 30 [] [] M (some (.int o)) M
      refine G.bipush (-2 : Int32) dX12_soonOf_30 kb_m2 ?_
      exact G.iret dX12_soonOf_32 rfl (rfl) h
    · have h := sum_inr h
      exact h
  · intro s1 x1 h K1
    show G yX12_soonOf cX12_soonOf 4 (some .int) 0 2 [(0, .ref a0), (1, .int a1), (3, .int s1)] [] M (some (.int o)) M
    refine G.iload_n dX12_soonOf_2 rfl rfl ?_
    refine G.bipush (25 : Int32) dX12_soonOf_3 kb_25 ?_
    refine G.icmp_ge 30 dX12_soonOf_5 (by decide) h (fun c2 h => ?_) (fun c2 h => ?_)
    · refine G.sub (lv' := []) [] rfl ?_
      have h := leafR' h K1
      exact h
    · refine G.aload_n dX12_soonOf_8 rfl rfl ?_
      refine G.getR dX12_soonOf_9 fkX12_179 fr12_74 h (fun v3 h => ?_)
      refine G.iload_n dX12_soonOf_12 rfl rfl ?_
      refine G.iald dX12_soonOf_13 h (fun v4 h => ?_)
      refine G.iload_n dX12_soonOf_14 rfl rfl ?_
      refine G.ishr dX12_soonOf_15 ?_
      refine G.iconst (1 : Int32) dX12_soonOf_16 ki_1 ?_
      refine G.iand dX12_soonOf_17 ?_
      refine G.iconst (1 : Int32) dX12_soonOf_18 ki_1 ?_
      refine G.icmp_ne 24 dX12_soonOf_19 (by decide) h (fun c5 h => ?_) (fun c5 h => ?_)
      · refine G.iload_n dX12_soonOf_22 rfl rfl ?_
        have h := leafR' h K1
        exact G.iret dX12_soonOf_23 rfl (rfl) h
      · refine G.iinc s1 (w := (s1 + (1 : Int32))) (lv' := [(3, .int (s1 + (1 : Int32))), (0, .ref a0), (1, .int a1)]) dX12_soonOf_24 rfl rfl (Nat.le_of_ble_eq_true rfl) rfl ?_
        refine G.goto 2 dX12_soonOf_27 (by decide) ?_
        refine G.sub (lv' := [(0, .ref a0), (1, .int a1), (3, .int (s1 + (1 : Int32)))]) [1, 2, 0] rfl ?_
        have h := leafL' h K1
        exact h
-- OnlyUpwardModel.soon(IIIIIZ)I
set_option maxRecDepth 100000 in
set_option maxHeartbeats 4000000 in
def F_X12_soon (n : Nat) (M : AM) (a0 : Nat) (a1 : Int32) (a2 : Int32) (a3 : Int32) (a4 : Int32) (a5 : Int32) (a6 : Int32) : Option (Int32 × AM) :=
  (rcv 12 M a0 (F_X12_isPerson n M a0 a1)).bind fun v1 => if v1 = 0 then some ((-1 : Int32), M) else (rcv 12 M a0 (F_X12_isSoon n M a0 a2 a3 a4 a5)).bind fun v3 => if v3 = 0 then some ((-1 : Int32), M) else (rcv 12 M a0 (F_X12_spreads n M a0 a2 a3 a4 a5 a6)).bind fun M6 => (rcv 12 M6 a0 (F_X12_soonOf n M6 a0 a1 a4)).bind fun v7 => some (v7, M6)
set_option maxRecDepth 100000 in
set_option maxHeartbeats 4000000 in
theorem C_X12_soon {n : Nat} {M : AM} {a0 : Nat} {a1 : Int32} {a2 : Int32} {a3 : Int32} {a4 : Int32} {a5 : Int32} {a6 : Int32} {o : (Int32 × AM)} (h : F_X12_soon n M a0 a1 a2 a3 a4 a5 a6 = some o) : Cn yX12_soon cX12_soon 7 (some .int) 6 [.ref a0, .int a1, .int a2, .int a3, .int a4, .int a5, .int a6] M (some (.int o.1)) o.2 := by
  unfold F_X12_soon at h
  refine Cn.of rfl (Nat.le_of_ble_eq_true rfl) ?_
  show G yX12_soon cX12_soon 7 (some .int) 6 0 [(0, .ref a0), (1, .int a1), (2, .int a2), (3, .int a3), (4, .int a4), (5, .int a5), (6, .int a6)] [] M (some (.int o.1)) o.2
  refine G.aload_n dX12_soon_0 rfl rfl ?_
  refine G.iload_n dX12_soon_1 rfl rfl ?_
  refine G.callVi (ci := 12) [.int a1] [] dX12_soon_2 lkX12_415 okX12_isPerson rfl (fun v hv => C_X12_isPerson hv) (Nat.le_of_ble_eq_true rfl) rfl rfl (Nat.le_of_ble_eq_true rfl) h (fun v1 h => ?_)
  refine G.if_eq 21 dX12_soon_5 (by decide) h (fun c2 h => ?_) (fun c2 h => ?_)
  · refine G.iconst (-1 : Int32) dX12_soon_21 ki_m1 ?_
    exact G.iretW dX12_soon_22 rfl (rfl) h
  · refine G.aload_n dX12_soon_8 rfl rfl ?_
    refine G.iload_n dX12_soon_9 rfl rfl ?_
    refine G.iload_n dX12_soon_10 rfl rfl ?_
    refine G.iload dX12_soon_11 rfl ?_
    refine G.iload dX12_soon_13 rfl ?_
    refine G.callVi (ci := 12) [.int a2, .int a3, .int a4, .int a5] [] dX12_soon_15 lkX12_487 okX12_isSoon rfl (fun v hv => C_X12_isSoon hv) (Nat.le_of_ble_eq_true rfl) rfl rfl (Nat.le_of_ble_eq_true rfl) h (fun v3 h => ?_)
    refine G.if_ne 23 dX12_soon_18 (by decide) h (fun c4 h => ?_) (fun c4 h => ?_)
    · refine G.iconst (-1 : Int32) dX12_soon_21 ki_m1 ?_
      exact G.iretW dX12_soon_22 rfl (rfl) h
    · refine G.aload_n dX12_soon_23 rfl rfl ?_
      refine G.iload_n dX12_soon_24 rfl rfl ?_
      refine G.iload_n dX12_soon_25 rfl rfl ?_
      refine G.iload dX12_soon_26 rfl ?_
      refine G.iload dX12_soon_28 rfl ?_
      refine G.iload dX12_soon_30 rfl ?_
      refine G.callVv (ci := 12) [.int a2, .int a3, .int a4, .int a5, .int a6] [] dX12_soon_32 lkX12_491 okX12_spreads rfl (fun v hv => C_X12_spreads hv) (Nat.le_of_ble_eq_true rfl) rfl rfl (Nat.le_of_ble_eq_true rfl) h (fun M6 h => ?_)
      refine G.aload_n dX12_soon_35 rfl rfl ?_
      refine G.iload_n dX12_soon_36 rfl rfl ?_
      refine G.iload dX12_soon_37 rfl ?_
      refine G.callVi (ci := 12) [.int a1, .int a4] [] dX12_soon_39 lkX12_495 okX12_soonOf rfl (fun v hv => C_X12_soonOf hv) (Nat.le_of_ble_eq_true rfl) rfl rfl (Nat.le_of_ble_eq_true rfl) h (fun v7 h => ?_)
      exact G.iretW dX12_soon_42 rfl (rfl) h
