/-! ===== laws: the reference ===== -/
theorem CdR.hd {a : Nat} {x : Nat × Nat} {A : CD} {S : ST} (h : CdR a (x :: A) S) : (S.1 134 a = nI (cdK x.1) ∧ (x.1 ≤ 21 → S.1 135 a = nI (cdV x))) ∧ CdR (a + 1) A S := h
theorem jnH0c {β : Type} {A : Option β} {f : Option β → Option β} {R : β → Prop} (C : Prop) (hA : C → Ok A R) (hf : ∀ J : Option β, (C → Ok J R) → Ok (f J) R) : Ok (jn A f) R := hf A hA
section RLA
variable {n : Nat} {S : ST} {vv : Nat → Int32}
theorem XP_of {S' : ST} (d : Df XP S S') {a j : Nat} (h : a ≠ 138 ∧ (a ≠ 95 ∨ j ≠ 60)) : S'.1 a j = S.1 a j := d.2 _ _ (by
  simp only [XP, Bool.or_eq_false_iff, Bool.and_eq_false_iff, beq_eq_false_iff_ne]; omega)
theorem r_termOf {c0 : Nat} {A : CD} (hn : 30000 ≤ n) (hA : CdR c0 A S) (hu : uC A) (hw : wfC 16 A 0 1) (hl : c0 + A.length ≤ 840) (hvv : ∀ j, j < 4 → vv j = S.1 137 j) : Ok (E_X12_termOf n S (nI c0) (nI (c0 + A.length))) (fun r => Df XP S r.2 ∧ ((tvO vv A = some r.1 ∧ r.2.1 95 60 = 0) ∨ (tvO vv A = none ∧ r.2.1 95 60 = 1))) := by
  unfold E_X12_termOf
  apply Ok.letsU
  generalize eS1 : upI S 95 60 (0 : Int32) = S1
  have d1 : Df XP S S1 := by rw [← eS1]; exact (Df.refl _ _).up rfl
  have z1 : S1.1 95 60 = 0 := by rw [← eS1, upI_at, if_pos ⟨rfl, rfl⟩]
  refine bindL (fun j (s : Int32 × Int32 × ST) => ∃ (B : CD) (st : List Int32), j + B.length = A.length ∧ s.1 = nI st.length ∧ s.2.1 = nI (c0 + j) ∧ Df XP S s.2.2 ∧ s.2.2.1 95 60 = 0 ∧ SkA 138 st s.2.2 ∧ wfC 16 B st.length 1 ∧ st.length ≤ 16 ∧ uC B ∧ CdR (c0 + j) B S ∧ evR vv B st = evR vv A []) (fun e => match e with
    | .inl S' => Df XP S S' ∧ S'.1 95 60 = 0 ∧ ∃ a, S'.1 138 0 = a ∧ evR vv A [] = some [a]
    | .inr r => Df XP S r.2 ∧ r.2.1 95 60 = 1 ∧ evR vv A [] = none) 0 A.length (Nat.zero_le _) (by omega) ⟨A, [], by omega, rfl, rfl, d1, z1, trivial, hw, by decide, hu, hA, rfl⟩ ?_ ?_ ?_
  · rintro j ⟨top, ix, S2⟩ _ hj ⟨B, st, hB, rfl, rfl, d2, z2, k2, w2, l2, u2, c2, e2⟩
    dsimp only at d2 z2 k2 ⊢
    refine Ok.ifF (nI_ge (by omega) (by omega)) ?_
    match B, hB, w2, u2, c2, e2 with
    | [], hB, _, _, _, _ => exact absurd hB (by simp only [List.length_nil]; omega)
    | (k, wv) :: B', hB, w2, u2, c2, e2 =>
    rw [List.length_cons] at hB
    obtain ⟨⟨g1, g2⟩, c3⟩ := c2.hd
    dsimp only at g1 g2
    have hk := u2 (k, wv) (List.mem_cons_self ..)
    dsimp only at hk
    have u3 : uC B' := fun y hy => u2 y (List.mem_cons_of_mem _ hy)
    unfold wfC at w2
    apply Ok.step (x := nI (cdK k)) (by rw [rd_nI (by omega) (by decide), XP_of d2 (by omega), g1])
    have up : ∀ {S3 : ST} {t : Nat} {u : Int32}, Df XP S S3 → Df XP S (upI S3 138 t u) := fun d => d.up rfl
    have nxt : ∀ (st' : List Int32) (S3 : ST), Df XP S S3 → S3.1 95 60 = 0 → SkA 138 st' S3 → wfC 16 B' st'.length 1 → st'.length ≤ 16 → evR vv B' st' = evR vv A [] → ∃ (B : CD) (st : List Int32), (j + 1) + B.length = A.length ∧ nI st'.length = nI st.length ∧ nI (c0 + j) + (1 : Int32) = nI (c0 + (j + 1)) ∧ Df XP S S3 ∧ S3.1 95 60 = 0 ∧ SkA 138 st S3 ∧ wfC 16 B st.length 1 ∧ st.length ≤ 16 ∧ uC B ∧ CdR (c0 + (j + 1)) B S ∧ evR vv B st = evR vv A [] := fun st' S3 e1 e2 e3 e4 e5 e6 => ⟨B', st', by omega, rfl, by rw [nI_1]; rfl, e1, e2, e3, e4, e5, u3, c3, e6⟩
    refine jnH2 (fun u5 S6 => ∃ st' : List Int32, u5 = nI st'.length ∧ Df XP S S6 ∧ S6.1 95 60 = 0 ∧ SkA 138 st' S6 ∧ wfC 16 B' st'.length 1 ∧ st'.length ≤ 16 ∧ evR vv B' st' = evR vv A []) (fun u5 S6 hq => by
      obtain ⟨st', rfl, e1, e2, e3, e4, e5, e6⟩ := hq
      exact ⟨_, rfl, nxt st' S6 e1 e2 e3 e4 e5 e6⟩) (fun J hJ => ?_)
    by_cases cu : k < 22
    · rw [if_pos cu] at w2
      have hc2 : cdK k ≤ 1 := by unfold cdK; split; omega; rw [if_pos (by omega)]; exact Nat.le_refl _
      refine Ok.ifF (nI_ge (b := 2) (by omega) (by decide)) ?_
      refine jnH1 (fun u22 => evR vv ((k, wv) :: B') st = evR vv B' (u22 :: st)) (fun u22 hq => ?_) (fun J2 hJ2 => ?_)
      · apply Ok.step (wr_nI (by omega) (by decide))
        refine hJ _ _ ⟨u22 :: st, nI_1 _, up d2, ?_, k2.push, w2.2, by dsimp only [List.length_cons]; omega, by rw [← hq]; exact e2⟩
        rw [upI_at, if_neg (by omega)]; exact z2
      · by_cases c21 : k = 21
        · subst c21
          refine Ok.ifT rfl ?_
          apply Ok.step (x := nI wv) (by rw [rd_nI (by omega) (by decide), XP_of d2 (by omega), g2 (by decide)]; rfl)
          exact hJ2 _ rfl
        · have eK : cdK k = 1 := by unfold cdK; rw [if_neg c21, if_pos (by omega)]
          have eV : cdV (k, wv) = k - 16 := by unfold cdV; rw [if_neg c21]
          rw [eK]
          refine Ok.ifF (by decide) ?_
          apply Ok.step (x := nI (k - 16)) (by rw [rd_nI (by omega) (by decide), XP_of d2 (by omega), g2 (by omega), eV])
          apply Ok.step (x := vv (k - 16)) (by rw [rd_nI (by omega) (by decide), XP_of d2 (by omega), hvv _ (by omega)])
          refine hJ2 _ ?_
          show (evO vv (k, wv) st).bind (evR vv B') = _
          unfold evO
          rw [if_neg c21, if_pos (by dsimp only; omega)]; rfl
    rw [if_neg cu] at w2
    have eK : cdK k = k - 22 := by unfold cdK; rw [if_neg (by omega), if_neg (by omega)]
    rw [eK]
    refine Ok.ifT (nI_le (a := 2) (by omega) (by omega)) ?_
    match st, k2, w2, l2, e2 with
    | [], _, w2, _, _ => exact absurd w2.2.1 (by simp)
    | [_], _, w2, _, _ => exact absurd w2.2.1 (by simp)
    | y :: x :: t, k2, w2, l2, e2 =>
    dsimp only [List.length_cons] at l2 w2 ⊢
    rw [nI_dec1, nI_sub1]
    apply Ok.step (x := x) (by rw [rd_nI (by omega) (by decide)]; exact congrArg some k2.2.1)
    apply Ok.step (x := y) (by rw [rd_nI (by omega) (by decide)]; exact congrArg some k2.1)
    have eo : evO vv (k, wv) (y :: x :: t) = if k = 27 ∧ y = 0 then none else some (opV k x y :: t) := by
      unfold evO
      rw [if_neg (by dsimp only; omega), if_neg (by dsimp only; omega)]
    rw [evR, eo] at e2
    have hk2 := w2.1
    -- the sum, the difference, the product, the quotient
    refine jnH0c (¬ (k = 27 ∧ y = 0)) ?_ (fun J2 hJ2 => ?_)
    case refine_2 =>
      by_cases c27 : k = 27
      · subst c27
        refine Ok.ifT (by decide) ?_
        by_cases cy : y = 0
        · refine Ok.ifT cy ?_
          apply Ok.letsU
          rw [if_pos ⟨rfl, cy⟩] at e2
          refine Ok.inr ⟨d2.up rfl, ?_, e2.symm⟩
          rw [upI_at, if_pos ⟨rfl, rfl⟩]
        · refine Ok.ifF cy (hJ2 (fun z => ?_))
          exact cy z.2
      · refine Ok.ifF (fun q => ?_) (hJ2 (fun z => c27 z.1))
        have := (nI_eq (b := 5) (by omega) (by decide)).mp q
        omega
    intro hno
    rw [if_neg hno] at e2
    have e2' : evR vv B' (opV k x y :: t) = evR vv A [] := e2
    refine jnH1 (fun u11 => u11 = opV k x y) (fun u11 hq => ?_) (fun J3 hJ3 => ?_)
    · subst hq
      apply Ok.step (wr_nI (by omega) (by decide))
      refine hJ _ _ ⟨opV k x y :: t, rfl, up d2, ?_, k2.2.2.push, w2.2.2, by dsimp only [List.length_cons]; omega, e2'⟩
      rw [upI_at, if_neg (by omega)]; exact z2
    · have hcs : k = 24 ∨ k = 25 ∨ k = 26 ∨ k = 27 := by omega
      rcases hcs with h | h | h | h
      · subst h
        exact Ok.ifT (by decide) (hJ3 _ rfl)
      · subst h
        exact Ok.ifF (by decide) (Ok.ifT (by decide) (hJ3 _ rfl))
      · subst h
        exact Ok.ifF (by decide) (Ok.ifF (by decide) (Ok.ifT (by decide) (hJ3 _ rfl)))
      · subst h
        have hy : ¬ y = 0 := fun z => hno ⟨rfl, z⟩
        refine Ok.ifF (by decide) (Ok.ifF (by decide) (Ok.ifF (by decide) (Ok.gdT hy (hJ3 _ ?_))))
        show x / y = if y = 0 then 0 else x / y
        rw [if_neg hy]
  · rintro ⟨top, ix, S2⟩ ⟨B, st, hB, rfl, rfl, d2, z2, k2, w2, l2, u2, c2, e2⟩
    dsimp only at d2 z2 k2 ⊢
    refine Ok.ifT (nI_le (Nat.le_refl _) (by omega)) ?_
    match B, hB, w2, e2 with
    | _ :: _, hB, _, _ => exact absurd hB (by simp only [List.length_cons]; omega)
    | [], hB, w2, e2 =>
    have hl1 : st.length = 1 := w2
    match st, hl1, k2, e2 with
    | [a], _, k2, e2 => exact Ok.inr ⟨d2, z2, a, k2.1, e2.symm⟩
  · rintro (S2 | ⟨u, S2⟩) hq
    · obtain ⟨d2, z2, a, h1, h2⟩ := hq
      apply Ok.elL
      apply Ok.step (x := a) (by rw [show (0 : Int32) = nI 0 from rfl, rd_nI (by decide) (by decide), h1])
      refine Ok.ret ⟨d2, Or.inl ⟨?_, z2⟩⟩
      unfold tvO
      rw [h2]; rfl
    · obtain ⟨d2, z2, h2⟩ := hq
      apply Ok.elR
      refine Ok.ret ⟨d2, Or.inr ⟨?_, z2⟩⟩
      unfold tvO
      rw [h2]; rfl
theorem r_isTrue {x : LT} {i c0 : Nat} (hn : 30000 ≤ n) (hx : LitR x i c0 S) (hw : ltW x) (hu : uC x.2.2.2.1 ∧ uC x.2.2.2.2) (hi : i < 300) (hl : c0 + (x.2.2.2.1.length + x.2.2.2.2.length) ≤ 840) (hvv : ∀ j, j < 4 → vv j = S.1 137 j) : Ok (E_X12_isTrue n S (nI i)) (fun r => r.1 = bI (litV vv x) ∧ Df XP S r.2) := by
  obtain ⟨h1, h2, h3, h4, h5, h6, h7, h8⟩ := hx
  obtain ⟨w1, w2, w3⟩ := hw
  unfold E_X12_isTrue
  apply Ok.step (rd_nI hi (by decide))
  apply Ok.step (rd_nI hi (by decide))
  rw [h4, h5]
  obtain ⟨⟨a, S1⟩, f1, d1, t1⟩ := r_termOf (n := n) (vv := vv) hn h7 hu.1 w2 (by omega) hvv
  dsimp only at d1 t1
  apply Ok.step f1
  apply Ok.step (x := nI (c0 + x.2.2.2.1.length)) (by rw [rd_nI hi (by decide), XP_of d1 (by omega), h5])
  apply Ok.step (x := nI (c0 + x.2.2.2.1.length + x.2.2.2.2.length)) (by rw [rd_nI hi (by decide), XP_of d1 (by omega), h6])
  obtain ⟨⟨b, S2⟩, f2, d2, t2⟩ := r_termOf (n := n) (vv := vv) (S := S1) hn (h8.fr (fun j _ _ => ⟨XP_of d1 (by omega), XP_of d1 (by omega)⟩)) hu.2 w3 (by omega) (fun j hj => by rw [XP_of d1 (by omega)]; exact hvv j hj)
  dsimp only at d2 t2
  apply Ok.step f2
  have d12 := d1.trans d2
  refine jnH1 (fun u7 => ∃ br : Bool, u7 = bI br ∧ cpV vv x.2.2.1 x.2.2.2.1 x.2.2.2.2 = (!br && cmV x.2.2.1 a b)) (fun u7 hq => ?_) (fun J hJ => ?_)
  case refine_2 =>
    apply Ok.jnU
    rcases t1 with ⟨q1, q2⟩ | ⟨q1, q2⟩
    · refine Ok.ifT q2 ?_
      rcases t2 with ⟨p1, p2⟩ | ⟨p1, p2⟩
      · refine Ok.ifT p2 (hJ _ ⟨false, rfl, ?_⟩)
        unfold cpV; rw [q1, p1]; rfl
      · refine Ok.ifF (by rw [p2]; decide) (hJ _ ⟨true, rfl, ?_⟩)
        unfold cpV; rw [q1, p1]; rfl
    · refine Ok.ifF (by rw [q2]; decide) (hJ _ ⟨true, rfl, ?_⟩)
      unfold cpV; rw [q1]; rfl
  obtain ⟨br, rfl, hcp⟩ := hq
  have e8 : rd (S2.1 128) 300 (nI i) = some (nI x.2.2.1) := by rw [rd_nI hi (by decide), XP_of d12 (by omega), h1]
  apply Ok.step e8
  refine jnH1 (fun u9 => u9 = bI (cmV x.2.2.1 a b)) (fun u9 hq => ?_) (fun J hJ => ?_)
  · subst hq
    refine jnH1 (fun u10 => u10 = bI (cpV vv x.2.2.1 x.2.2.2.1 x.2.2.2.2)) (fun u10 hq => ?_) (fun J hJ => ?_)
    · subst hq
      apply Ok.step (x := bI (oddI x.2.1)) (by rw [rd_nI hi (by decide), XP_of d12 (by omega), h2])
      unfold litV
      cases cpV vv x.2.2.1 x.2.2.2.1 x.2.2.2.2 <;> cases oddI x.2.1
      · exact Ok.ifT rfl (Ok.ret ⟨rfl, d12⟩)
      · exact Ok.ifF (by decide) (Ok.ret ⟨rfl, d12⟩)
      · exact Ok.ifF (by decide) (Ok.ret ⟨rfl, d12⟩)
      · exact Ok.ifT rfl (Ok.ret ⟨rfl, d12⟩)
    · apply Ok.jnU
      rw [hcp] at hJ
      cases hc : cmV x.2.2.1 a b with
      | false =>
        refine Ok.ifT rfl (hJ _ ?_)
        rw [hc, Bool.and_false]; rfl
      | true =>
        refine Ok.ifF (by decide) ?_
        cases br with
        | false =>
          refine Ok.ifT rfl (hJ _ ?_)
          rw [hc]; rfl
        | true =>
          exact Ok.ifF (by decide) (hJ _ rfl)
  · have hcs : x.2.2.1 = 0 ∨ x.2.2.1 = 1 ∨ x.2.2.1 = 2 ∨ x.2.2.1 = 3 := by omega
    rcases hcs with h | h | h | h
    · rw [h] at hJ ⊢
      refine Ok.ifT rfl ?_
      by_cases c : a = b
      · exact Ok.ifT c (hJ _ (by simp [cmV, c, bI]))
      · exact Ok.ifF c (hJ _ (by simp [cmV, c, bI]))
    · rw [h] at hJ e8 ⊢
      refine Ok.ifF (by decide) ?_
      apply Ok.step e8
      refine Ok.ifT rfl ?_
      by_cases c : a = b
      · exact Ok.ifT c (hJ _ (by simp [cmV, c, bI]))
      · exact Ok.ifF c (hJ _ (by simp [cmV, c, bI]))
    · rw [h] at hJ e8 ⊢
      refine Ok.ifF (by decide) ?_
      apply Ok.step e8
      refine Ok.ifF (by decide) ?_
      apply Ok.step e8
      refine Ok.ifT rfl ?_
      by_cases c : b ≤ a
      · exact Ok.ifT c (hJ _ (by simp [cmV, Int32.not_lt.mpr c, bI]))
      · exact Ok.ifF c (hJ _ (by simp [cmV, Int32.not_le.mp c, bI]))
    · rw [h] at hJ e8 ⊢
      refine Ok.ifF (by decide) ?_
      apply Ok.step e8
      refine Ok.ifF (by decide) ?_
      apply Ok.step e8
      refine Ok.ifF (by decide) ?_
      by_cases c : b < a
      · exact Ok.ifT c (hJ _ (by simp [cmV, Int32.not_le.mpr c, bI]))
      · exact Ok.ifF c (hJ _ (by simp [cmV, Int32.not_lt.mp c, bI]))
theorem gr_cons {v : Nat → Int32} {x : LT} {r : List LT} {p : Bool × Bool} : gr v (x :: r) p = gr v r (grS v x p) := rfl
theorem gr_t {v : Nat → Int32} : ∀ (ls : List LT) (b : Bool), (gr v ls (true, b)).1 = true := by
  intro ls
  induction ls with
  | nil => intro b; rfl
  | cons x r ih =>
    intro b
    rw [gr_cons]
    unfold grS
    split
    · exact ih _
    · exact ih _
theorem r_holdsL {ls : List LT} {r lt cb : Nat} (hn : 30000 ≤ n) (hx : LwR ls r lt cb S) (hr : r < 16) (hw : ∀ x ∈ ls, ltW x ∧ uC x.2.2.2.1 ∧ uC x.2.2.2.2) (hi : lt + ls.length ≤ 300) (hl : cb + cdt ls ≤ 840) (hvv : ∀ j, j < 4 → vv j = S.1 137 j) : Ok (E_X12_holdsRule n S (nI r)) (fun q => q.1 = bI (lawV vv ls) ∧ Df XP S q.2) := by
  obtain ⟨h1, h2, h3⟩ := hx
  unfold E_X12_holdsRule
  apply Ok.step (rd_nI hr (by decide))
  rw [h1]
  refine bindL (fun j (s : Int32 × Int32 × ST) => ∃ (B : List LT) (al : Bool) (c1 : Nat), j + B.length = ls.length ∧ s.1 = bI al ∧ s.2.1 = nI (lt + j) ∧ Df XP S s.2.2 ∧ LitsR B (lt + j) c1 S ∧ c1 + cdt B ≤ 840 ∧ (∀ x ∈ B, ltW x ∧ uC x.2.2.2.1 ∧ uC x.2.2.2.2) ∧ ((gr vv B (false, al)).1 || (gr vv B (false, al)).2) = lawV vv ls) (fun e => match e with
    | .inl e => e.1 = bI (lawV vv ls) ∧ Df XP S e.2
    | .inr e => e.1 = bI (lawV vv ls) ∧ Df XP S e.2) 0 ls.length (Nat.zero_le _) (by omega) ⟨ls, false, cb, by omega, rfl, rfl, Df.refl _ _, h3, hl, hw, rfl⟩ ?_ ?_ ?_
  · rintro j ⟨u, ix, S2⟩ _ hj ⟨B, al, c1, hB, rfl, rfl, d2, l2, b2, w2, e2⟩
    dsimp only at d2 ⊢
    apply Ok.step (x := nI (lt + ls.length)) (by rw [rd_nI hr (by decide), XP_of d2 (by omega), h2])
    refine Ok.ifF (nI_ge (by omega) (by omega)) ?_
    match B, hB, l2, b2, w2, e2 with
    | [], hB, _, _, _, _ => exact absurd hB (by simp only [List.length_nil]; omega)
    | x :: B', hB, l2, b2, w2, e2 =>
    rw [List.length_cons] at hB
    rw [cdt] at b2
    obtain ⟨l3, l4⟩ : LitR x (lt + j) c1 S ∧ LitsR B' (lt + j + 1) (c1 + (x.2.2.2.1.length + x.2.2.2.2.length)) S := l2
    have hwx := w2 x (List.mem_cons_self ..)
    have w3 : ∀ y ∈ B', ltW y ∧ uC y.2.2.2.1 ∧ uC y.2.2.2.2 := fun y hy => w2 y (List.mem_cons_of_mem _ hy)
    rw [gr_cons] at e2
    have e130 : rd (S2.1 130) 300 (nI (lt + j)) = some (bI x.1) := by rw [rd_nI (by omega) (by decide), XP_of d2 (by omega), l3.2.2.1]
    apply Ok.step e130
    refine jnH0c (¬ (x.1 = true ∧ al = true)) ?_ (fun J hJ => ?_)
    case refine_2 =>
      cases hor : x.1 with
      | false => exact Ok.ifT rfl (hJ (fun z => by rw [hor] at z; cases z.1))
      | true =>
        refine Ok.ifF (by decide) ?_
        cases al with
        | false => exact Ok.ifT rfl (hJ (fun z => by cases z.2))
        | true =>
          refine Ok.ifF (by decide) (Ok.inr ⟨?_, d2⟩)
          rw [← e2]
          unfold grS
          rw [if_pos hor]
          show (1 : Int32) = bI ((gr vv B' (true, litV vv x)).1 || _)
          rw [gr_t]; rfl
    intro hno
    apply Ok.step e130
    have ealt : gr vv B' (grS vv x (false, al)) = gr vv B' (false, (x.1 || al) && litV vv x) := by
      unfold grS
      cases hx1 : x.1 with
      | true =>
        cases hal : al with
        | true => exact absurd ⟨hx1, hal⟩ hno
        | false => rfl
      | false => rfl
    rw [ealt] at e2
    refine jnH1 (fun u7 => u7 = bI (x.1 || al)) (fun u7 hq => ?_) (fun J hJ => ?_)
    case refine_2 =>
      cases hx1 : x.1 with
      | false => exact Ok.ifT rfl (hJ _ (by rw [hx1]; rfl))
      | true => exact Ok.ifF (by decide) (hJ _ (by rw [hx1]; rfl))
    subst hq
    refine jnH2 (fun u8 S9 => u8 = bI ((x.1 || al) && litV vv x) ∧ Df XP S S9) (fun u8 S9 hq => ?_) (fun J hJ => ?_)
    · obtain ⟨rfl, d9⟩ := hq
      exact ⟨_, rfl, B', _, _, by omega, rfl, by rw [nI_1]; rfl, d9, l4, by omega, w3, e2⟩
    · apply Ok.jnU
      cases ha : (x.1 || al) with
      | false => exact Ok.ifT rfl (hJ _ _ ⟨by rw [ha]; rfl, d2⟩)
      | true =>
        refine Ok.ifF (by decide) ?_
        obtain ⟨⟨t, S3⟩, f3, t3, d3⟩ := r_isTrue (n := n) (vv := vv) (S := S2) hn (l3.fr (fun a h1 h2 => XP_of d2 (by omega)) (fun a j h1 h2 => XP_of d2 (by omega))) hwx.1 hwx.2 (by omega) (by omega) (fun j hj => by rw [XP_of d2 (by omega)]; exact hvv j hj)
        dsimp only at t3 d3
        subst t3
        apply Ok.step f3
        cases hl : litV vv x with
        | false => exact Ok.ifT rfl (hJ _ _ ⟨by rw [ha, hl]; rfl, d2.trans d3⟩)
        | true => exact Ok.ifF (show ¬ bI true = 0 by decide) (hJ _ _ ⟨by rw [ha, hl]; rfl, d2.trans d3⟩)
  · rintro ⟨u, ix, S2⟩ ⟨B, al, c1, hB, rfl, rfl, d2, l2, b2, w2, e2⟩
    dsimp only at d2 ⊢
    apply Ok.step (x := nI (lt + ls.length)) (by rw [rd_nI hr (by decide), XP_of d2 (by omega), h2])
    refine Ok.ifT (nI_le (Nat.le_refl _) (by omega)) ?_
    match B, hB, e2 with
    | _ :: _, hB, _ => exact absurd hB (by simp only [List.length_cons]; omega)
    | [], _, e2 =>
    refine Ok.inr ⟨?_, d2⟩
    show bI al = _
    rw [← e2]; rfl
  · rintro (⟨u, S2⟩ | ⟨u, S2⟩) hq
    · obtain ⟨h5, h6⟩ := hq
      apply Ok.elL
      have h5' : u = bI (lawV vv ls) := h5
      subst h5'
      exact Ok.gdT (bI_nar _) (Ok.ret ⟨rfl, h6⟩)
    · exact Ok.elR (Ok.ret hq)
end RLA
