/-! ===== the cheapest way, by the reference: one entry ===== -/
section CHR
variable {W : VW} {V : VL} {tw en sd : Nat} {P : PL} {N : Nat} {H : HL} {n : Nat} {S : ST}
theorem cv_price {d f k : Nat} (h : WFc d f) (hd : d < 24) (hf : f ≠ 500000) (hk : k ≤ 99) : cv f + nI (1000 * k + 1) = cv (f + 32 * k + 1) := by
  rcases h with z | ⟨z1, z2⟩
  · exact absurd z hf
  unfold cv
  rw [if_neg hf, if_neg (by omega), nI_add]
  congr 1
  omega
theorem cv_m1 {d f : Nat} (h : WFc d f) (hd : d ≤ 24) : cv f = -1 ↔ f = 500000 := by
  unfold cv
  by_cases c : f = 500000
  · rw [if_pos c]; simp [c]
  · rw [if_neg c]
    rcases h with z | ⟨z1, z2⟩
    · exact absurd z c
    refine ⟨fun e => ?_, fun e => absurd e c⟩
    have := eq_m1 (a := 1000 * (f / 32) + f % 32) (by omega)
    rw [e] at this
    simp at this
theorem cv_le {d f g : Nat} (h : WFc d f) (h' : WFc d g) (hd : d ≤ 24) (hf : f ≠ 500000) (hg : g ≠ 500000) : cv f ≤ cv g ↔ f ≤ g := by
  rcases h with z | ⟨z1, z2⟩
  · exact absurd z hf
  rcases h' with z | ⟨z3, z4⟩
  · exact absurd z hg
  unfold cv
  rw [if_neg hf, if_neg hg, nI_leI (by omega) (by omega)]
  omega
theorem cv_inj {d f g : Nat} (h : WFc d f) (h' : WFc d g) (hd : d ≤ 24) (e : cv f = cv g) : f = g := by
  by_cases hf : f = 500000
  · have : cv g = -1 := by rw [← e, hf]; rfl
    rw [hf, (cv_m1 h' hd).mp this]
  · have hg : g ≠ 500000 := fun z => hf ((cv_m1 h hd).mp (by rw [e, z]; rfl))
    have a := (cv_le h h' hd hf hg).mp (by rw [e]; exact Int32.le_refl _)
    have b := (cv_le h' h hd hg hf).mp (by rw [e]; exact Int32.le_refl _)
    omega
theorem r_price {h i : Nat} {t : Nat} (hR : RRep W sd S) (hW : WF W) (hO : OptR W h (Lb W V t h 2000) S) (hl : (Lb W V t h 2000).length ≤ 160) (hi : i < (Lb W V t h 2000).length) : E_X12_price n S (nI i) = some (nI (1000 * kC W ((Lb W V t h 2000).getD i 0) + 1)) := by
  have hsd := hR.1
  have hm7 : W 0 7 ≤ 6 := hW.mx (k := 7) (by decide)
  have hv := Lb_get (W := W) (V := V) (t := t) (h := h) hi
  have hk := kC_le hW hv
  have hc : (Lb W V t h 2000)[i]? = some ((Lb W V t h 2000).getD i 0) := by
    rw [List.getD_eq_getElem?_getD, List.getElem?_eq_getElem hi]; rfl
  obtain ⟨o1, o2, o3, o4⟩ := hO.2 i _ hc
  generalize (Lb W V t h 2000).getD i 0 = c at *
  unfold E_X12_price
  apply Ok.e
  apply Ok.step (rd_nI (by omega) (by decide))
  apply Ok.step (rd_nI (by omega) (by decide))
  rw [o1, o3]
  refine Ok.step (x := nI (kC W c)) ?_ (Ok.ret (by rw [show (1000 : Int32) = nI 1000 from rfl, nI_mulN, nI_1]))
  unfold E_X12_costOf
  apply Ok.e
  by_cases c1 : c < 1000
  · rw [if_pos c1]
    refine Ok.ifF (by decide) (Ok.ifF (by decide) (Ok.ret ?_))
    unfold kC; rw [if_pos c1]; rfl
  · rw [if_neg c1]
    obtain ⟨_, ⟨z, _⟩ | ⟨_, _, _, z2, _⟩⟩ := hv
    · omega
    have ec : (c - 1000) % 20 = c % 20 := by omega
    rw [ec] at z2
    refine Ok.ifT rfl ?_
    apply Ok.step (x := nI (W 16 (c % 20))) (by simp (disch := omega) only [↓reduceIte, Option.bind_some, jn, lets, Sum.elim_inl, Sum.elim_inr, if_true, if_false, rd_nI, wr_nI, rd_z, rd_o, wr_z, wr_o, nI_1, nI_add, pk_mul, nI_leI, nI_ltI, nI_eq, z_le, le_z, z_lt, lt_z, eq_z, eq_o, le_o, o_le, lt_o, o_lt, eq_m1, eq_m2, m1_eq, m2_eq, m1_lt, m1_le, o_z, z_o, m1_z, m1_o, m2_z, m2_o, m2_m1, z_lz, z_lo, o_lz, o_ez, z_ez, z_eo, m2_lt, m2_le, leF, leT, ltF, ltT, eqF, eqT, bI_z, bI_o, sh1, sh0, not_true_eq_false, not_false_eq_true, ne_eq, Bool.true_eq_false, Bool.false_eq_true, true_and, and_true, false_and, and_false, l_2, l_3, l_4, l_5, l_6, l_7, l_8, l_9, l_10, l_11, l_12, l_13, l_14, l_15, l_16, l_17, l_18, l_19, l_20, l_21, l_22, l_23, l_24, l_25, l_26, l_27, l_28, l_29, l_30, l_32, l_33, l_34, l_35, l_36, l_37, l_38, l_39, l_50, l_60, l_99, l_100, l_150, l_160, l_240, l_250, l_300, l_400, l_402, l_403, l_420, l_500, l_600, l_840, l_1000, l_1024, l_2000, l_2047, l_2048, l_10000, l_25600, l_500000, t_sd hR, t_123 hR])
    refine Ok.ret ?_
    unfold kC; rw [if_neg c1, ec]
theorem r_best {q t d x : Nat} {cont : Int32 → Option (Int32 × ST ⊕ ST)} {R : Int32 × ST ⊕ ST → Prop} (hR : RRep W sd S) (hW : WF W) (hn : 30000 ≤ n) (hd : d < 24) (hx : x < 2 ^ W 0 1) (hq : x.testBit q = false) (hO : OptR W (23 - d) (Lb W V t (23 - d) 2000) S) (hl : (Lb W V t (23 - d) 2000).length ≤ 160) (hT : ∀ y, y < 2 ^ W 0 1 → S.1 149 (1024 * (23 - d) + 1024 + y) = cv (chOpt W V q t d y)) (hc : Ok (cont (cv (chOpt W V q t (d + 1) x))) R) :
    Ok ((iter (fun (s14 : Int32 × Int32) => if (S.1 95 76) ≤ s14.2 then some (.inr s14.1) else (E_X12_canTake n S s14.2 (nI x)).bind fun v16 => jn (fun (u17 : Int32) => some (.inl (u17, (s14.2 + (1 : Int32))))) fun j18 => if v16 = 0 then j18 s14.1 else (rd (S.1 153) 160 s14.2).bind fun v20 => (rd (S.1 149) 25600 ((((1024 : Int32) * (nI (23 - d))) + (1024 : Int32)) + ((nI x) ||| v20))).bind fun v21 => if v21 = (-1 : Int32) then j18 s14.1 else jn ((E_X12_price n S s14.2).bind fun v23 => j18 (v21 + v23)) fun j24 => if s14.1 = (-1 : Int32) then j24 else (E_X12_price n S s14.2).bind fun v26 => if s14.1 ≤ (v21 + v26) then j18 s14.1 else j24) n (cv (chOpt W V q t d x), (0 : Int32))).bind fun (e14 : Int32) => cont e14) R := by
  have hm1 : W 0 1 ≤ 10 := hW.mx (k := 1) (by decide)
  have hpow : 2 ^ W 0 1 ≤ 2 ^ 10 := Nat.pow_le_pow_right (by decide) hm1
  rw [hO.1]
  refine bindP (fun i => (cv (mnC W (chOpt W V q t d) (23 - d) x (Lb W V t (23 - d) 2000) i), nI i)) (cv (chOpt W V q t (d + 1) x)) 0 (Lb W V t (23 - d) 2000).length (Nat.zero_le _) (by omega) rfl ?_ ?_ hc
  · intro i _ hi
    have hv := Lb_get (W := W) (V := V) (t := t) (h := 23 - d) hi
    have hk := kC_le hW hv
    have hp := vC_p hv
    have hpr := r_price (n := n) hR hW hO hl hi
    have wf := mnC_wf (V := V) (q := q) (t := t) (x := x) hW hd i (by omega)
    have hci : (Lb W V t (23 - d) 2000)[i]? = some ((Lb W V t (23 - d) 2000).getD i 0) := by
      rw [List.getD_eq_getElem?_getD, List.getElem?_eq_getElem hi]; rfl
    obtain ⟨o1, o2, o3, o4⟩ := hO.2 i _ hci
    have em : mnC W (chOpt W V q t d) (23 - d) x (Lb W V t (23 - d) 2000) (i + 1) = if x.testBit (pC ((Lb W V t (23 - d) 2000).getD i 0)) = true ∧ chOpt W V q t d (x ||| sC W (23 - d) ((Lb W V t (23 - d) 2000).getD i 0)) ≠ 500000 then min (mnC W (chOpt W V q t d) (23 - d) x (Lb W V t (23 - d) 2000) i) (vlC W (chOpt W V q t d) (23 - d) x ((Lb W V t (23 - d) 2000).getD i 0)) else mnC W (chOpt W V q t d) (23 - d) x (Lb W V t (23 - d) 2000) i := rfl
    generalize (Lb W V t (23 - d) 2000).getD i 0 = c at *
    generalize mnC W (chOpt W V q t d) (23 - d) x (Lb W V t (23 - d) 2000) i = mm at *
    refine Ok.ifF (nI_ge hi (by omega)) ?_
    have hs := sC_lt (W := W) (h := 23 - d) (c := c)
    have hy : x ||| sC W (23 - d) c < 2 ^ W 0 1 := Nat.or_lt_two_pow hx hs
    have ect : E_X12_canTake n S (nI i) (nI x) = some (bI (x.testBit (pC c))) := by
      unfold E_X12_canTake
      apply Ok.e
      apply Ok.step (x := nI (pC c)) (by rw [rd_nI (by omega) (by decide), o2])
      by_cases cb : x.testBit (pC c) = true
      · exact Ok.ifT ((shr_1 _ (by omega)).mpr (by rw [bt_nI _ _ (by omega)]; exact cb)) (Ok.ret (by rw [cb]; rfl))
      · refine Ok.ifF (fun z => cb ?_) (Ok.ret ?_)
        · have := (shr_1 _ (by omega)).mp z
          rw [bt_nI _ _ (by omega)] at this
          exact this
        · simp only [Bool.not_eq_true] at cb
          rw [cb]; rfl
    apply Ok.step ect
    apply Ok.jnU
    by_cases cb : x.testBit (pC c) = true
    case neg =>
      rw [if_neg (fun z => cb z.1)] at em
      simp only [Bool.not_eq_true] at cb
      rw [cb]
      exact Ok.ifT rfl (Ok.ret (by rw [em, nI_1]))
    rw [cb]
    refine Ok.ifF (by decide) ?_
    apply Ok.step (x := nI (sC W (23 - d) c)) (by rw [rd_nI (by omega) (by decide), o4])
    have ea : (((1024 : Int32) * (nI (23 - d))) + (1024 : Int32)) + ((nI x) ||| nI (sC W (23 - d) c)) = nI (1024 * (23 - d) + 1024 + (x ||| sC W (23 - d) c)) := by
      rw [nI_orN (by omega) (by omega), show (1024 : Int32) = nI 1024 from rfl, nI_mulN, nI_add, nI_add]
    rw [ea]
    apply Ok.step (x := cv (chOpt W V q t d (x ||| sC W (23 - d) c))) (by rw [rd_nI (by omega) (by decide), hT _ hy])
    have wf2 := chOpt_wf (V := V) (q := q) (t := t) hW d (x ||| sC W (23 - d) c) (by omega)
    have ev : vlC W (chOpt W V q t d) (23 - d) x c = chOpt W V q t d (x ||| sC W (23 - d) c) + 32 * kC W c + 1 := rfl
    rw [ev] at em
    generalize chOpt W V q t d (x ||| sC W (23 - d) c) = g at *
    by_cases cf : g = 500000
    · rw [if_neg (fun z => z.2 cf)] at em
      exact Ok.ifT ((cv_m1 wf2 (by omega)).mpr cf) (Ok.ret (by rw [em, nI_1]))
    rw [if_pos ⟨cb, cf⟩] at em
    refine Ok.ifF (fun z => cf ((cv_m1 wf2 (by omega)).mp z)) ?_
    have e3 := cv_price wf2 hd cf hk
    have wf3 : WFc 24 (g + 32 * kC W c + 1) := by
      rcases wf2 with z | ⟨z1, z2⟩
      · exact absurd z cf
      · exact Or.inr ⟨by omega, by omega⟩
    have nf3 : g + 32 * kC W c + 1 ≠ 500000 := by
      rcases wf2 with z | ⟨z1, z2⟩
      · exact absurd z cf
      · omega
    have hmm : mm ≤ 500000 := by
      rcases wf with z | ⟨z1, z2⟩
      · omega
      · omega
    have hg5 : g + 32 * kC W c + 1 ≤ 500000 := by
      rcases wf2 with z | ⟨z1, z2⟩
      · exact absurd z cf
      · omega
    dsimp only
    by_cases take : mm = 500000 ∨ g + 32 * kC W c + 1 < mm
    · have e5 : mnC W (chOpt W V q t d) (23 - d) x (Lb W V t (23 - d) 2000) (i + 1) = g + 32 * kC W c + 1 := by rw [em]; omega
      refine jnH0 ?_ ?_
      · apply Ok.step hpr
        exact Ok.ret (by rw [e3, e5, nI_1])
      · intro J hJ
        refine Ok.ifC (fun _ => hJ) (fun z => ?_)
        have nm : mm ≠ 500000 := fun y => z ((cv_m1 wf (by omega)).mpr y)
        apply Ok.step hpr
        rw [e3]
        refine Ok.ifF (fun y => ?_) hJ
        have := (cv_le wf wf3 (by omega) nm nf3).mp y
        omega
    · have nm : mm ≠ 500000 := fun y => take (Or.inl y)
      have e5 : mnC W (chOpt W V q t d) (23 - d) x (Lb W V t (23 - d) 2000) (i + 1) = mm := by rw [em]; omega
      apply Ok.jnU
      refine Ok.ifF (fun y => nm ((cv_m1 wf (by omega)).mp y)) ?_
      apply Ok.step hpr
      rw [e3]
      exact Ok.ifT ((cv_le wf wf3 (by omega) nm nf3).mpr (by omega)) (Ok.ret (by rw [e5, nI_1]))
  · refine Ok.ifT (Int32.le_refl _) (Ok.ret ?_)
    rw [mnC_end hW hd hq]
end CHR
