/-! ===== the cheapest way, by the reference: the table ===== -/
def XCh (a j : Nat) : Bool := XOp a j || (a == 149 || (a == 95 && j == 61))
def hvC (k : Nat) : Int32 := if k = 25 then -1 else nI (24 - k)
theorem hvC_step {k : Nat} (h : k ≤ 24) : hvC k + (-1 : Int32) = hvC (k + 1) := by
  have : ∀ k : Fin 25, hvC k.val + (-1 : Int32) = hvC (k.val + 1) := by decide
  exact this ⟨k, by omega⟩
theorem two_pow_m {m : Nat} (h : m ≤ 10) : (1 : Int32) <<< (nI m &&& 31) = nI (2 ^ m) := by
  have : ∀ m : Fin 11, (1 : Int32) <<< (nI m.val &&& 31) = nI (2 ^ m.val) := by decide
  exact this ⟨m, by omega⟩
def TRw (W : VW) (V : VL) (q t i : Nat) (S : ST) : Prop := ∀ y, y < 2 ^ W 0 1 → S.1 149 (1024 * i + y) = cv (chOpt W V q t (24 - i) y)
section CHT
variable {W : VW} {V : VL} {tw en sd : Nat} {P : PL} {N : Nat} {H : HL} {n : Nat} {S : ST}
theorem nx_Ch {a j : Nat} (h : a ≠ 137 ∧ a ≠ 138 ∧ (a < 149 ∨ 153 < a) ∧ (a ≠ 95 ∨ (j ≠ 60 ∧ j ≠ 76 ∧ j ≠ 61))) : XCh a j = false := by
  simp only [XCh, XOp, XM, Bool.or_eq_false_iff, Bool.and_eq_false_iff, beq_eq_false_iff_ne, decide_eq_false_iff_not]
  omega
theorem XOp_XCh {S S' : ST} (h : Df XOp S S') : Df XCh S S' := h.mono (fun a j hx => by
  simp only [XCh, Bool.or_eq_false_iff] at hx
  exact hx.1)
theorem r_cheapens {q t h0 : Nat} (hR : RRep W sd S) (hL : RLw V W sd S) (hW : WF W) (hn : 30000 ≤ n) (hq : q < W 0 1) (ht : t < 6) (hh : h0 < 24) : Ok (E_X12_cheapens n S (nI q) (nI t) (nI h0)) (fun S' => Df XCh S S' ∧ S'.1 95 61 = 0 ∧ ∀ i, h0 ≤ i → i ≤ 24 → TRw W V q t i S') := by
  have hm1 : W 0 1 ≤ 10 := hW.mx (k := 1) (by decide)
  have hpow : 2 ^ W 0 1 ≤ 2 ^ 10 := Nat.pow_le_pow_right (by decide) hm1
  have hsd := hR.1
  have RR : ∀ {S'}, Df XCh S S' → RRep W sd S' := fun d => hR.df d (fun a j hx => nx_Ch (by omega))
  have RL : ∀ {S'}, Df XCh S S' → RLw V W sd S' := fun d => hL.df d (fun a j hx => nx_Ch (by simp only [lawC, decide_eq_true_eq] at hx; omega))
  unfold E_X12_cheapens
  apply Ok.letsU
  generalize hS1 : upI S 95 61 0 = S1
  have d1 : Df XCh S S1 := by rw [← hS1]; exact (Df.refl _ _).up rfl
  have z1 : S1.1 95 61 = 0 := by rw [← hS1, upI_at, if_pos ⟨rfl, rfl⟩]
  apply Ok.step (r_h1 (RR d1))
  rw [two_pow_m hm1]
  refine bindL (fun k s => s.1 = hvC k ∧ Df XCh S s.2 ∧ s.2.1 95 61 = 0 ∧ ∀ i, 24 < i + k → i ≤ 24 → TRw W V q t i s.2) (fun S' => Df XCh S S' ∧ S'.1 95 61 = 0 ∧ ∀ i, h0 ≤ i → i ≤ 24 → TRw W V q t i S') 0 (25 - h0) (Nat.zero_le _) (by omega) ⟨rfl, d1, z1, fun i h1 h2 => absurd h1 (by omega)⟩ ?_ ?_ (fun S' h => Ok.ret h)
  · rintro k ⟨y, S2⟩ _ hk ⟨rfl, d2, z2, t2⟩
    dsimp only at d2 z2 t2 ⊢
    obtain ⟨i, hi, hi2, hik⟩ : ∃ i, i ≤ 24 ∧ h0 ≤ i ∧ k = 24 - i := ⟨24 - k, by omega, by omega, by omega⟩
    have ehv : hvC k = nI i := by unfold hvC; rw [if_neg (by omega)]; congr 1; omega
    have nxt := hvC_step (k := k) (by omega)
    rw [ehv] at nxt ⊢
    refine Ok.ifF (nI_nlt hi2 (by omega)) ?_
    refine jnH1 (fun S5 => Df XCh S S5 ∧ S5.1 95 61 = 0 ∧ (∀ i', 24 < i' + k → i' ≤ 24 → TRw W V q t i' S5) ∧ (i < 24 → OptR W i (Lb W V t i 2000) S5 ∧ (Lb W V t i 2000).length ≤ 160)) ?_ ?_
    rotate_left
    · intro J hJ
      by_cases c : i = 24
      · exact Ok.ifT (nI_le (a := 24) (by omega) (by omega)) (hJ _ ⟨d2, z2, t2, fun h => absurd h (by omega)⟩)
      · refine Ok.ifF (nI_ge (b := 24) (by omega) (by decide)) ?_
        obtain ⟨S3, e3, d3, o3, l3⟩ := r_optionsAt (V := V) (t := t) (h := i) (RR d2) (RL d2) hW hn z2 (by omega) ht
        apply Ok.step e3
        refine hJ _ ⟨d2.trans (XOp_XCh d3), by rw [d3.2 _ _ rfl]; exact z2, fun i' h1 h2 y hy => ?_, fun _ => ⟨o3, l3⟩⟩
        rw [d3.2 149 _ rfl]
        exact t2 i' h1 h2 y hy
    rintro S3 ⟨d3, z3, t3, o3⟩
    refine bindL (fun x s => s.1 = nI x ∧ Df XCh S s.2 ∧ s.2.1 95 61 = 0 ∧ (∀ i', 24 < i' + k → i' ≤ 24 → TRw W V q t i' s.2) ∧ (i < 24 → OptR W i (Lb W V t i 2000) s.2 ∧ (Lb W V t i 2000).length ≤ 160) ∧ ∀ y, y < x → s.2.1 149 (1024 * i + y) = cv (chOpt W V q t (24 - i) y)) (fun S' => Df XCh S S' ∧ S'.1 95 61 = 0 ∧ ∀ i', 24 < i' + (k + 1) → i' ≤ 24 → TRw W V q t i' S') 0 (2 ^ W 0 1) (Nat.zero_le _) (by omega) ⟨rfl, d3, z3, t3, o3, fun y hy => absurd hy (by omega)⟩ ?_ ?_ (fun S' h => Ok.inl ⟨nxt, h.1, h.2.1, h.2.2⟩)
    · rintro x ⟨y, S4⟩ _ hx ⟨rfl, d4, z4, t4, o4, r4⟩
      dsimp only at d4 z4 t4 o4 r4 ⊢
      refine Ok.ifF (nI_ge hx (by omega)) ?_
      have e24 : chOpt W V q t 0 x = if x.testBit q = true then 0 else 500000 := rfl
      have shr1 : ((nI x >>> (nI q &&& 31)) &&& (1 : Int32) = 1) ↔ x.testBit q = true := by rw [shr_1 _ (by omega), bt_nI _ _ (by omega)]
      have shr0 : ((nI x >>> (nI q &&& 31)) &&& (1 : Int32) = 0) ↔ x.testBit q = false := by rw [shr_0 _ (by omega), bt_nI _ _ (by omega)]
      refine jnH1 (fun u => (x.testBit q = true → u = 0) ∧ (x.testBit q = false → u = if i = 24 then -1 else cv (chOpt W V q t (23 - i) x))) ?_ ?_
      rotate_left
      · intro J hJ
        by_cases cq : x.testBit q = true
        · exact Ok.ifT (shr1.mpr cq) (hJ _ ⟨fun _ => rfl, fun z => by rw [cq] at z; cases z⟩)
        refine Ok.ifF (fun z => cq (shr1.mp z)) ?_
        by_cases c : i = 24
        · exact Ok.ifT (by rw [c]; rfl) (hJ _ ⟨fun z => absurd z cq, fun _ => by rw [if_pos c]⟩)
        · refine Ok.ifF (fun z => c ((nI_eq (b := 24) (by omega) (by decide)).mp z)) ?_
          have ea : (((1024 : Int32) * (nI i)) + (1024 : Int32)) + (nI x) = nI (1024 * (i + 1) + x) := by
            rw [show (1024 : Int32) = nI 1024 from rfl, nI_mulN, nI_add, nI_add]; congr 1 <;> omega
          rw [ea]
          apply Ok.step (x := cv (chOpt W V q t (24 - (i + 1)) x)) (by rw [rd_nI (by omega) (by decide), t4 (i + 1) (by omega) (by omega) x hx])
          exact hJ _ ⟨fun z => absurd z cq, fun _ => by rw [if_neg c, show 24 - (i + 1) = 23 - i by omega]⟩
      rintro u ⟨u1, u2⟩
      refine jnH1 (fun u => u = cv (chOpt W V q t (24 - i) x)) ?_ ?_
      · rintro _ rfl
        have ea : ((1024 : Int32) * (nI i)) + (nI x) = nI (1024 * i + x) := by
          rw [show (1024 : Int32) = nI 1024 from rfl, nI_mulN, nI_add]
        rw [ea]
        apply Ok.step (x := upI S4 149 (1024 * i + x) (cv (chOpt W V q t (24 - i) x))) (wr_nI (by omega) (by decide))
        refine Ok.inl ⟨nI_1 _, d4.up rfl, by dsimp only; rw [upI_at, if_neg (by omega)]; exact z4, fun i' h1 h2 y hy => ?_, fun h => ⟨(o4 h).1.df (X := fun a _ => a == 149) ((Df.refl _ _).up rfl) (fun a j h => by simp only [beq_eq_false_iff_ne]; omega), (o4 h).2⟩, fun y hy => ?_⟩
        · dsimp only
          rw [upI_at, if_neg (by omega)]
          exact t4 i' h1 h2 y hy
        · dsimp only
          rw [upI_at]
          by_cases e : y = x
          · rw [if_pos ⟨rfl, by omega⟩, e]
          · rw [if_neg (by omega)]
            exact r4 y (by omega)
      · intro J hJ
        by_cases c : i = 24
        · refine Ok.ifT (nI_le (a := 24) (by omega) (by omega)) (hJ _ ?_)
          rw [show 24 - i = 0 by omega, e24]
          by_cases cq : x.testBit q = true
          · rw [if_pos cq, u1 cq]; rfl
          · rw [if_neg cq, u2 (by simpa using cq), if_pos c]; rfl
        refine Ok.ifF (nI_ge (b := 24) (by omega) (by decide)) ?_
        obtain ⟨d, hd, hid⟩ : ∃ d, d < 24 ∧ i = 23 - d := ⟨23 - i, by omega, by omega⟩
        subst hid
        have hid2 : 24 - (23 - d) = d + 1 := by omega
        by_cases cq : x.testBit q = true
        · refine Ok.ifF (fun z => ?_) (hJ _ ?_)
          · have := shr0.mp z
            rw [cq] at this; cases this
          · rw [u1 cq, hid2, chOpt, if_pos cq]; rfl
        · have cq2 : x.testBit q = false := by simpa using cq
          refine Ok.ifT (shr0.mpr cq2) ?_
          obtain ⟨o5, l5⟩ := o4 (by omega)
          have hu : u = cv (chOpt W V q t d x) := by rw [u2 cq2, if_neg c, show 23 - (23 - d) = d by omega]
          rw [hu]
          refine r_best (V := V) (q := q) (t := t) (d := d) (RR d4) hW hn hd hx cq2 o5 l5 (fun y hy => ?_) (hJ _ ?_)
          · have := t4 (23 - d + 1) (by omega) (by omega) y hy
            rw [show 24 - (23 - d + 1) = d by omega] at this
            rw [show 1024 * (23 - d) + 1024 = 1024 * (23 - d + 1) by omega]
            exact this
          · rw [show 24 - (23 - d) = d + 1 by omega]
    · rintro ⟨y, S4⟩ ⟨rfl, d4, z4, t4, o4, r4⟩
      dsimp only at d4 z4 t4 o4 r4 ⊢
      refine Ok.ifT (Int32.le_refl _) (Ok.inr ⟨d4, z4, fun i' h1 h2 => ?_⟩)
      by_cases e : i' = i
      · rw [e]; exact r4
      · exact t4 i' (by omega) h2
  · rintro ⟨y, S2⟩ ⟨rfl, d2, z2, t2⟩
    dsimp only at d2 z2 t2 ⊢
    refine Ok.ifT ?_ (Ok.inr ⟨d2, z2, fun i h1 h2 => t2 i (by omega) h2⟩)
    unfold hvC
    by_cases c : h0 = 0
    · rw [c]; decide
    · rw [if_neg (by omega)]
      exact nI_lt (by omega) (by omega)
end CHT
