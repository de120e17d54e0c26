/-! ===== the cheapest way: values ===== -/
/-- a value as the reference writes it -/
def cv (c : Nat) : Int32 := if c = 500000 then -1 else nI (1000 * (c / 32) + c % 32)
def WFc (d c : Nat) : Prop := c = 500000 ∨ (c % 32 ≤ d ∧ c / 32 ≤ 99 * d)
set_option maxRecDepth 100000 in
theorem cv_aux {M b k c : Nat} (h : M ≤ b * 2048 + 2047) : M ≤ (b + 32 * k + 1) * 2048 + c ∧ M < (b + 32 * k + 1) * 2048 := by
  refine ⟨?_, ?_⟩
  · omega
  · omega
section CHV
variable {W : VW} {V : VL}
def vlC (W : VW) (f : Nat → Nat) (h x c : Nat) : Nat := f (x ||| sC W h c) + 32 * kC W c + 1
theorem opt_min {q t d x : Nat} (hW : WF W) (hd : d < 24) (hq : x.testBit q = false) :
    (chOpt W V q t (d + 1) x ≤ chOpt W V q t d x ∧ ∀ c, vC W V t (23 - d) c → x.testBit (pC c) = true → chOpt W V q t (d + 1) x ≤ vlC W (chOpt W V q t d) (23 - d) x c) ∧
    (chEn W V q t (23 - d) x % 2048 = 2047 → chOpt W V q t (d + 1) x = chOpt W V q t d x ∧ ∀ c, vC W V t (23 - d) c → x.testBit (pC c) = true → chOpt W V q t (d + 1) x < vlC W (chOpt W V q t d) (23 - d) x c) ∧
    (chEn W V q t (23 - d) x % 2048 ≠ 2047 → chOpt W V q t d (x ||| sC W (23 - d) (chEn W V q t (23 - d) x % 2048)) ≠ 500000 ∧ chOpt W V q t (d + 1) x = vlC W (chOpt W V q t d) (23 - d) x (chEn W V q t (23 - d) x % 2048) ∧ ∀ c, vC W V t (23 - d) c → x.testBit (pC c) = true → chOpt W V q t (d + 1) x = vlC W (chOpt W V q t d) (23 - d) x c → chEn W V q t (23 - d) x % 2048 ≤ c) := by
  have hm1 : W 0 1 ≤ 10 := hW.mx (k := 1) (by decide)
  have hm7 : W 0 7 ≤ 6 := hW.mx (k := 7) (by decide)
  have e23 : 23 - (23 - d) = d := by omega
  have eE : chEn W V q t (23 - d) x = chEnt W V t (chOpt W V q t d) (23 - d) x (W 0 1) := by unfold chEn; rw [e23]
  have eO : chOpt W V q t (d + 1) x = chEn W V q t (23 - d) x / 2048 := by rw [chOpt, hq, if_neg (by decide), eE]
  obtain ⟨h1, h2, h3⟩ := chEnt_min (V := V) (t := t) (f := chOpt W V q t d) (h := 23 - d) (x := x) hm1 hm7 (chOpt_le _ _) (W 0 1) (Nat.le_refl _)
  rw [← eE] at h1 h2 h3
  have ol := chOpt_le (W := W) (V := V) (q := q) (t := t) d x
  have hg : ∀ c, gC W (chOpt W V q t d) (23 - d) x c = vlC W (chOpt W V q t d) (23 - d) x c * 2048 + c := fun c => rfl
  have hcl : ∀ c, vC W V t (23 - d) c → c < 2000 := fun c hv => by
    obtain ⟨_, ⟨z, _⟩ | ⟨_, z, _⟩⟩ := hv
    · omega
    · exact z
  have ext : ∀ c, vC W V t (23 - d) c → x.testBit (pC c) = true → chEn W V q t (23 - d) x ≤ vlC W (chOpt W V q t d) (23 - d) x c * 2048 + c ∧ (x ||| sC W (23 - d) c = x → chEn W V q t (23 - d) x < vlC W (chOpt W V q t d) (23 - d) x c * 2048) := fun c hv hb => by
    by_cases e : x ||| sC W (23 - d) c = x
    · have : vlC W (chOpt W V q t d) (23 - d) x c = chOpt W V q t d x + 32 * kC W c + 1 := by unfold vlC; rw [e]
      rw [this]
      exact ⟨(cv_aux (c := c) h2).1, fun _ => (cv_aux (c := 0) h2).2⟩
    · have := h3 c hv (vC_p hv) hb e
      rw [hg] at this
      exact ⟨this, fun z => absurd z e⟩
  generalize hM : chEn W V q t (23 - d) x = M at *
  rw [eO]
  refine ⟨⟨by omega, fun c hv hb => ?_⟩, fun hc => ⟨?_, fun c hv hb => ?_⟩, fun hc => ?_⟩
  · have := ext c hv hb
    have := hcl c hv
    omega
  · rcases h1 with z | ⟨p, z1, z2, c, z3, z4, z5, z6, z7⟩
    · omega
    · rw [hg] at z7
      omega
  · have h4 := ext c hv hb
    have h5 := hcl c hv
    rcases h1 with z | ⟨p, z1, z2, c', z3, z4, z5, z6, z7⟩
    · omega
    · rw [hg] at z7
      omega
  · rcases h1 with z | ⟨p, z1, z2, c, z3, z4, z5, z6, z7⟩
    · rw [z] at hc; omega
    · rw [hg] at z7
      have ec : M % 2048 = c := by omega
      have ev : M / 2048 = vlC W (chOpt W V q t d) (23 - d) x c := by omega
      rw [ec, ev]
      refine ⟨fun z => ?_, rfl, fun c' hv hb he => ?_⟩
      · have : vlC W (chOpt W V q t d) (23 - d) x c = 500000 + 32 * kC W c + 1 := by unfold vlC; rw [z]
        omega
      · have := (ext c' hv hb).1
        omega
theorem kC_le {t h c : Nat} (hW : WF W) (hv : vC W V t h c) : kC W c ≤ 99 := by
  unfold kC
  obtain ⟨_, ⟨z, _⟩ | ⟨z, _, _, z2, _⟩⟩ := hv
  · rw [if_pos z]; decide
  · rw [if_neg (by omega)]
    exact (hW.2.2.2.2.2.2.2.1 _ z2).2.2
theorem chOpt_wf {q t : Nat} (hW : WF W) : ∀ d x, d ≤ 24 → WFc d (chOpt W V q t d x) := by
  intro d
  induction d with
  | zero =>
    intro x _
    rw [chOpt]
    unfold WFc wINF
    by_cases c : x.testBit q = true
    · rw [if_pos c]; exact Or.inr ⟨by decide, by decide⟩
    · rw [if_neg c]; exact Or.inl rfl
  | succ d ih =>
    intro x hd
    by_cases c : x.testBit q = true
    · rw [chOpt, if_pos c]; exact Or.inr ⟨by omega, by omega⟩
    have c2 : x.testBit q = false := by simpa using c
    obtain ⟨h1, h2, h3⟩ := opt_min (V := V) (t := t) hW (show d < 24 by omega) c2
    by_cases e : chEn W V q t (23 - d) x % 2048 = 2047
    · rw [(h2 e).1]
      rcases ih x (by omega) with z | z
      · exact Or.inl z
      · exact Or.inr ⟨by omega, by omega⟩
    · obtain ⟨h4, h5, _⟩ := h3 e
      have hv := (chEn_code (V := V) (q := q) (t := t) (h := 23 - d) (x := x) hW e).1
      have hk := kC_le hW hv
      rw [h5]
      unfold vlC
      rcases ih (x ||| sC W (23 - d) (chEn W V q t (23 - d) x % 2048)) (by omega) with z | z
      · exact absurd z h4
      · refine Or.inr ⟨?_, ?_⟩
        · omega
        · omega
/-- the least of the first options -/
def mnC (W : VW) (f : Nat → Nat) (h x : Nat) (L : List Nat) : Nat → Nat
  | 0 => f x
  | i + 1 => if x.testBit (pC (L.getD i 0)) = true ∧ f (x ||| sC W h (L.getD i 0)) ≠ 500000 then min (mnC W f h x L i) (vlC W f h x (L.getD i 0)) else mnC W f h x L i
theorem Lb_mem {t h c : Nat} : c ∈ Lb W V t h 2000 ↔ vC W V t h c := by
  unfold Lb
  rw [List.mem_filter, List.mem_range, decide_eq_true_eq]
  refine ⟨fun z => z.2, fun hv => ⟨?_, hv⟩⟩
  obtain ⟨_, ⟨z, _⟩ | ⟨_, z, _⟩⟩ := hv
  · omega
  · exact z
theorem Lb_get {t h i : Nat} (hi : i < (Lb W V t h 2000).length) : vC W V t h ((Lb W V t h 2000).getD i 0) := by
  rw [← Lb_mem, List.getD_eq_getElem?_getD, List.getElem?_eq_getElem hi]
  exact List.getElem_mem hi
theorem Lb_idx {t h c : Nat} (hv : vC W V t h c) : ∃ i, i < (Lb W V t h 2000).length ∧ (Lb W V t h 2000).getD i 0 = c := by
  obtain ⟨i, hi, e⟩ := List.getElem_of_mem (Lb_mem.mpr hv)
  exact ⟨i, hi, by rw [List.getD_eq_getElem?_getD, List.getElem?_eq_getElem hi]; exact e⟩
theorem mnC_le {f : Nat → Nat} {h x : Nat} {L : List Nat} : ∀ {i j}, i ≤ j → mnC W f h x L j ≤ mnC W f h x L i := by
  intro i j
  induction j with
  | zero => intro h; rw [show i = 0 by omega]; exact Nat.le_refl _
  | succ j ih =>
    intro h
    by_cases e : i = j + 1
    · rw [e]; exact Nat.le_refl _
    · refine Nat.le_trans ?_ (ih (by omega))
      rw [mnC]
      split
      · exact Nat.min_le_left _ _
      · exact Nat.le_refl _
theorem mnC_end {q t d x : Nat} (hW : WF W) (hd : d < 24) (hq : x.testBit q = false) : mnC W (chOpt W V q t d) (23 - d) x (Lb W V t (23 - d) 2000) (Lb W V t (23 - d) 2000).length = chOpt W V q t (d + 1) x := by
  obtain ⟨⟨h1, h1'⟩, h2, h3⟩ := opt_min (V := V) (t := t) hW hd hq
  apply Nat.le_antisymm
  · by_cases e : chEn W V q t (23 - d) x % 2048 = 2047
    · rw [(h2 e).1]
      exact mnC_le (i := 0) (Nat.zero_le _)
    · obtain ⟨h4, h5, _⟩ := h3 e
      obtain ⟨hv, hb, _⟩ := chEn_code (V := V) (q := q) (t := t) (h := 23 - d) (x := x) hW e
      obtain ⟨i, hi, ei⟩ := Lb_idx hv
      rw [h5]
      refine Nat.le_trans (mnC_le (show i + 1 ≤ _ from hi)) ?_
      rw [mnC, ei, if_pos ⟨hb, h4⟩]
      exact Nat.min_le_right _ _
  · have : ∀ i, i ≤ (Lb W V t (23 - d) 2000).length → chOpt W V q t (d + 1) x ≤ mnC W (chOpt W V q t d) (23 - d) x (Lb W V t (23 - d) 2000) i := by
      intro i
      induction i with
      | zero => intro _; exact h1
      | succ i ih =>
        intro hi
        rw [mnC]
        have a := ih (by omega)
        by_cases c : x.testBit (pC ((Lb W V t (23 - d) 2000).getD i 0)) = true ∧ chOpt W V q t d (x ||| sC W (23 - d) ((Lb W V t (23 - d) 2000).getD i 0)) ≠ 500000
        · rw [if_pos c]
          have b := h1' _ (Lb_get (by omega)) c.1
          omega
        · rw [if_neg c]; exact a
    exact this _ (Nat.le_refl _)
theorem mnC_wf {q t d x : Nat} (hW : WF W) (hd : d < 24) : ∀ i, i ≤ (Lb W V t (23 - d) 2000).length → WFc 24 (mnC W (chOpt W V q t d) (23 - d) x (Lb W V t (23 - d) 2000) i) := by
  intro i
  induction i with
  | zero =>
    intro _
    rcases chOpt_wf (V := V) (q := q) (t := t) hW d x (by omega) with z | z
    · exact Or.inl z
    · exact Or.inr ⟨by rw [mnC]; omega, by rw [mnC]; omega⟩
  | succ i ih =>
    intro hi
    rw [mnC]
    have a := ih (by omega)
    have hv := Lb_get (W := W) (V := V) (t := t) (h := 23 - d) (i := i) (by omega)
    have hk := kC_le hW hv
    generalize (Lb W V t (23 - d) 2000).getD i 0 = c at *
    by_cases c1 : x.testBit (pC c) = true ∧ chOpt W V q t d (x ||| sC W (23 - d) c) ≠ 500000
    · rw [if_pos c1]
      have b : WFc 24 (vlC W (chOpt W V q t d) (23 - d) x c) := by
        unfold vlC
        rcases chOpt_wf (V := V) (q := q) (t := t) hW d (x ||| sC W (23 - d) c) (by omega) with z | z
        · exact absurd z c1.2
        · exact Or.inr ⟨by omega, by omega⟩
      by_cases e : mnC W (chOpt W V q t d) (23 - d) x (Lb W V t (23 - d) 2000) i ≤ vlC W (chOpt W V q t d) (23 - d) x c
      · rw [Nat.min_eq_left e]; exact a
      · rw [Nat.min_eq_right (by omega)]; exact b
    · rw [if_neg c1]; exact a
end CHV
