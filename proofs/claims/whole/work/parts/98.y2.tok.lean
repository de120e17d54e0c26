/-! ===== Tokens: the words from the text ===== -/
def chN (i : Nat) : Int32 := arrW.getD i 0
def tkP : List (Nat × Nat) := [(0, 0), (0, 16), (0, 444), (0, 11989), (0, 323706), (0, 8740067), (1, 0), (1, 16), (1, 437), (1, 11817), (1, 319078), (1, 8615121), (1, 232608281), (2, 0), (2, 20), (2, 548), (2, 14805), (2, 399749), (2, 10793230), (3, 0), (3, 20), (3, 548), (3, 14805), (3, 399749), (4, 0), (4, 1), (4, 47), (5, 0), (5, 11), (5, 311), (5, 8412), (5, 227147), (5, 6132988), (6, 0), (6, 13), (6, 372), (6, 10063), (6, 271721), (7, 0), (7, 1), (7, 30), (7, 830), (8, 0), (8, 20), (8, 541), (8, 14626), (8, 394913), (9, 0), (9, 19), (9, 514), (9, 13903), (10, 0), (10, 1), (10, 46), (10, 1253), (11, 0), (11, 2), (11, 63), (11, 1719), (11, 46433), (11, 1253699), (12, 0), (12, 9), (12, 249), (13, 0), (13, 15), (13, 423), (14, 0), (14, 1), (14, 41), (14, 1111), (15, 0), (15, 14), (15, 393), (15, 10631), (16, 0), (16, 13), (16, 360), (16, 9734), (16, 262823), (17, 0), (17, 25), (17, 690), (17, 18651), (17, 503595), (17, 13597084), (18, 0), (18, 8), (18, 231), (18, 6258), (18, 168984), (19, 0), (19, 3), (19, 99), (19, 2688), (19, 72599), (19, 1960177)]
def twI (i : Nat) : Nat := (tkP.getD i (0, 0)).1
def tvI (i : Nat) : Nat := (tkP.getD i (0, 0)).2
def lgs : Nat → List (Nat × Nat × Int64)
  | 0 => []
  | w + 1 => (14, w, nL (kwN w)) :: lgs w
theorem tkx_s : ∀ i, i < 96 → chN i = 32 → twI (i + 1) = twI i + 1 ∧ tvI i = kwN (twI i) ∧ tvI (i + 1) = 0 := by decide +kernel
theorem tkx_l : ∀ i, i < 96 → chN i ≠ 32 → twI (i + 1) = twI i ∧ nL (tvI i) * (27 : Int64) + ((chN i - (97 : Int32)) + (1 : Int32)).toInt64 = nL (tvI (i + 1)) := by decide +kernel
theorem tkx_w : ∀ i, i < 96 → twI i < 20 ∧ ¬ (96 : Int32) ≤ nI i ∧ ¬ (20 : Int32) ≤ nI (twI i) := by decide +kernel
theorem tkx_c : ∀ i, i < 96 → (((chN i &&& (255 : Int32))).toUInt32 % 65536).toInt32 = chN i ∧ narrow .char (.int (chN i)) = .int (chN i) := by decide +kernel
theorem lgs_none {a j : Nat} : ∀ w, w ≤ j → fL (lgs w) a j = none := by
  intro w
  induction w with
  | zero => intro _; rfl
  | succ w ih =>
    intro h
    unfold fL lgs
    rw [List.find?_cons_of_neg (by
      simp only [Bool.and_eq_true, beq_iff_eq]
      omega)]
    exact ih (by omega)
section TOK
variable {L n : Nat} {xs : Nat → Int32} {D : DD} {A : AK} {B : List (Nat × Nat × Nat)} {C : List (Nat × Nat × Nat × Int32)} {l : List (Nat × Nat × Int64)}
theorem dnm_zero {a j : Nat} (h : fL l a j = none) : dnm L xs (A, B, C, (a, j, 0) :: l) = dnm L xs (A, B, C, l) := by
  have e : (dnm L xs (A, B, C, (a, j, 0) :: l)).2.2.1 = (dnm L xs (A, B, C, l)).2.2.1 := by
    funext b i
    show (fL ((a, j, 0) :: l) b i).getD 0 = (fL l b i).getD 0
    by_cases c : b = a ∧ i = j
    · rw [c.1, c.2, h]
      unfold fL
      rw [List.find?_cons_of_pos (by simp)]; rfl
    · unfold fL
      rw [List.find?_cons_of_neg (by
        simp only [Bool.and_eq_true, beq_iff_eq]
        omega)]
  show ((dnm L xs (A, B, C, l)).1, (dnm L xs (A, B, C, l)).2.1, (dnm L xs (A, B, C, (a, j, 0) :: l)).2.2.1, (dnm L xs (A, B, C, l)).2.2.2) = _
  rw [e]
theorem dnm_shad {a j : Nat} {v v' : Int64} : dnm L xs (A, B, C, (a, j, v) :: (a, j, v') :: l) = dnm L xs (A, B, C, (a, j, v) :: l) := by
  have e : (dnm L xs (A, B, C, (a, j, v) :: (a, j, v') :: l)).2.2.1 = (dnm L xs (A, B, C, (a, j, v) :: l)).2.2.1 := by
    funext b i
    show (fL ((a, j, v) :: (a, j, v') :: l) b i).getD 0 = (fL ((a, j, v) :: l) b i).getD 0
    unfold fL
    by_cases c : b = a ∧ i = j
    · rw [List.find?_cons_of_pos (by simp [c.1, c.2]), List.find?_cons_of_pos (by simp [c.1, c.2])]
    · have z : ∀ u : Int64, ¬ ((fun (e : Nat × Nat × Int64) => e.1 == b && e.2.1 == i) (a, j, u) = true) := by
        intro u
        simp only [Bool.and_eq_true, beq_iff_eq]
        omega
      rw [List.find?_cons_of_neg (p := fun (e : Nat × Nat × Int64) => e.1 == b && e.2.1 == i) (z v), List.find?_cons_of_neg (p := fun (e : Nat × Nat × Int64) => e.1 == b && e.2.1 == i) (z v'), List.find?_cons_of_neg (p := fun (e : Nat × Nat × Int64) => e.1 == b && e.2.1 == i) (z v)]
  show ((dnm L xs (A, B, C, (a, j, v) :: l)).1, (dnm L xs (A, B, C, (a, j, v) :: l)).2.1, (dnm L xs (A, B, C, (a, j, v) :: (a, j, v') :: l)).2.2.1, (dnm L xs (A, B, C, (a, j, v) :: l)).2.2.2) = _
  rw [e]
theorem chr_len : F_J0_length_8abf5 n (dnm L xs D) = some (96 : Int32) := rfl
theorem fI_low (h : C.all (fun e => decide (8 ≤ e.1)) = true) {a : Nat} (ha : a < 8) (j : Nat) : fI C a j = none := by
  unfold fI
  rw [List.find?_eq_none.mpr (fun e he z => ?_)]; rfl
  have h1 := of_decide_eq_true (List.all_eq_true.mp h e he)
  rw [Bool.and_eq_true, beq_iff_eq] at z
  omega
theorem chr_at (h : C.all (fun e => decide (8 ≤ e.1)) = true) {i : Nat} (hi : i < 96) : F_J0_charAt_5068e n (dnm L xs (A, B, C, l)) (nI i) = some (chN i) := by
  have e1 : F_J0_isLatin1_aae02 n (dnm L xs (A, B, C, l)) = some 1 := rfl
  have e2 : aln (dnm L xs (A, B, C, l)) 6 = some (96 : Int32) := rfl
  have e3 : F_J0_checkIndex_df160 n (dnm L xs (A, B, C, l)) (nI i) 96 = some () := by
    unfold F_J0_checkIndex_df160 F_J3_checkIndex_8e157
    simp only [jn]
    rw [if_neg (Int32.not_lt.mpr (nI_pos' (by omega))), if_pos (Int32.not_le.mp (tkx_w i hi).2.1)]; rfl
  have e4 : rdB (dnm L xs (A, B, C, l)) 6 (nI i) = some (chN i) := by
    unfold rdB
    rw [if_pos (y_rdK (q := 1) (len := 96) rfl rfl hi (by decide)), nI_clamp (by omega)]
    show some ((fI C 6 i).getD (iw arrW i)) = _
    rw [fI_low h (by decide)]; rfl
  unfold F_J0_charAt_5068e F_J1_charAt_3b067
  rw [e1, Option.bind_some, if_neg (by decide), e2, Option.bind_some, e3, Option.bind_some, e4, Option.bind_some, (tkx_c i hi).1, gd_pos (tkx_c i hi).2, Option.bind_some, gd_pos (tkx_c i hi).2]
theorem tok_loop {β : Type} {g : AM → Option β} {Q : β → Prop} (h : C.all (fun e => decide (8 ≤ e.1)) = true) (hO : isO (A, B, C, []) 10 9 = true) (hA : isA (A, B, C, []) 14 2 20 = true) (hR : fR B 10 3 = some 14) (hn : 1000 ≤ n)
    (hg : Ok (g (dnm L xs (A, B, C, lgs 20))) Q) : Ok ((iter (fun (s10 : Int32 × Int32 × AM) => (F_J0_length_8abf5 n s10.2.2).bind fun v11 => if v11 ≤ s10.2.1 then some (.inr s10.2.2) else if (20 : Int32) ≤ s10.1 then some (.inr s10.2.2) else (F_J0_charAt_5068e n s10.2.2 s10.2.1).bind fun v14 => jn (fun (u15 : Int32) (M16 : AM) => some (.inl (u15, (s10.2.1 + (1 : Int32)), M16))) fun j17 => if v14 = (32 : Int32) then j17 (s10.1 + (1 : Int32)) s10.2.2 else (gR 9 3 s10.2.2 10).bind fun v19 => (gR 9 3 s10.2.2 10).bind fun v20 => (rdL s10.2.2 v20 s10.1).bind fun v21 => (F_X9_withLetter n s10.2.2 v21 v14).bind fun v22 => (wrL s10.2.2 v19 s10.1 v22).bind fun M23 => j17 s10.1 M23) n ((0 : Int32), (0 : Int32), dnm L xs (A, B, C, []))).bind g) Q := by
  refine bindP (fun i => (nI (twI i), nI i, dnm L xs (A, B, C, (14, twI i, nL (tvI i)) :: lgs (twI i)))) (dnm L xs (A, B, C, lgs 20)) 0 96 (by decide) (by omega) ?_ (fun i _ hi => ?_) ?_ hg
  · show _ = (nI 0, nI 0, dnm L xs (A, B, C, (14, 0, 0) :: []))
    rw [dnm_zero rfl]; rfl
  · obtain ⟨h1, h2, h3⟩ := tkx_w i hi
    refine Ok.step chr_len ?_
    refine Ok.ifF h2 (Ok.ifF h3 (Ok.step (chr_at h hi) (Ok.jnU ?_)))
    refine Ok.ifC (fun c => ?_) (fun c => ?_)
    · obtain ⟨a1, a2, a3⟩ := tkx_s i hi c
      refine Ok.ret ?_
      show Sum.inl (nI (twI i) + 1, nI i + 1, dnm L xs (A, B, C, (14, twI i, nL (tvI i)) :: lgs (twI i))) = Sum.inl (nI (twI (i + 1)), nI (i + 1), dnm L xs (A, B, C, (14, twI (i + 1), nL (tvI (i + 1))) :: lgs (twI (i + 1))))
      rw [a1, a2, a3, nI_succ, nI_succ]
      show _ = Sum.inl (_, _, dnm L xs (A, B, C, (14, twI i + 1, 0) :: lgs (twI i + 1)))
      rw [dnm_zero (lgs_none _ (Nat.le_refl _))]; rfl
    · obtain ⟨a1, a2⟩ := tkx_l i hi c
      have hO' : isO (A, B, C, (14, twI i, nL (tvI i)) :: lgs (twI i)) 10 9 = true := hO
      have hA' : isA (A, B, C, (14, twI i, nL (tvI i)) :: lgs (twI i)) 14 2 20 = true := hA
      refine y_gR hO' hR (y_gR hO' hR ?_)
      obtain ⟨k1, k2⟩ := isA_K (L := L) (xs := xs) hA'
      refine Ok.step (x := nL (tvI i)) ?_ ?_
      · unfold rdL
        rw [if_pos ⟨y_rdK k1 rfl h1 (by decide), k2⟩, nI_clamp (by omega)]
        show some ((fL ((14, twI i, nL (tvI i)) :: lgs (twI i)) 14 (twI i)).getD 0) = _
        unfold fL
        rw [List.find?_cons_of_pos (by simp)]; rfl
      refine Ok.step (x := nL (tvI (i + 1))) (by unfold F_X9_withLetter; rw [a2]) ?_
      refine y_wL rfl hA' h1 (by decide) ?_
      refine Ok.ret ?_
      show Sum.inl (nI (twI i), nI i + 1, dnm L xs (A, B, C, (14, twI i, nL (tvI (i + 1))) :: (14, twI i, nL (tvI i)) :: lgs (twI i))) = Sum.inl (nI (twI (i + 1)), nI (i + 1), dnm L xs (A, B, C, (14, twI (i + 1), nL (tvI (i + 1))) :: lgs (twI (i + 1))))
      rw [a1, nI_succ, dnm_shad]
  · refine Ok.step chr_len ?_
    refine Ok.ifT (show (96 : Int32) ≤ nI 96 by decide) (Ok.ret ?_)
    show Sum.inr (dnm L xs (A, B, C, (14, twI 96, nL (tvI 96)) :: lgs (twI 96))) = Sum.inr (dnm L xs (A, B, C, lgs 20))
    rfl
end TOK
