/-! ===== the reference is told: any tell, all of them ===== -/
/-- cells that a text changes, on side sd -/
def XTe (sd a j : Nat) : Bool := (a == 95 && (decide (11 ≤ j ∧ j ≤ 16) || (j == 20 || (j == 46 || (j == 53 || j == 57))))) || ((a == 104 || (a == 105 || a == 136)) || ((a == 106 && decide (8 * sd ≤ j ∧ j < 8 * sd + 8)) || ((a == 107 && j == sd) || ((decide (108 ≤ a ∧ a ≤ 124) && decide (capR a * sd ≤ j ∧ j < capR a * sd + capR a)) || ((a == 125 && decide (2 * sd ≤ j ∧ j < 2 * sd + 2)) || lawJ sd a j)))))
section RTA
variable {n L sd so k m nn lt cb : Nat} {c : Nat → Nat} {S S' : ST}
theorem XTs_Te (hk : k < 9) (d : D2 (XTs sd k m nn) YNo S S') : D2 (XTe sd) YNo S S' := d.mono (fun a j hx => by
  rcases cA_or (sd := sd) hk with ⟨q, q1, q2⟩ | ⟨q, q1, q2⟩
  all_goals
    simp only [XTe, Bool.or_eq_false_iff, Bool.and_eq_false_iff, beq_eq_false_iff_ne, decide_eq_false_iff_not] at hx
    simp only [XTs, XSm, XNo, q1, q2, Bool.or_eq_false_iff, Bool.and_eq_false_iff, beq_eq_false_iff_ne, decide_eq_false_iff_not]
    omega) (fun _ h => h)
theorem XLaw_Te (hso : so < 2) (hm : m < 4) (h1 : 150 * sd ≤ lt) (h2 : 420 * sd ≤ cb) (d : Df (XLaw (150 * sd + 150) (420 * sd + 420) (8 * sd + 4 * so + m) (2 * sd + so) lt cb) S S') : D2 (XTe sd) YNo S S' := (D2.of d).mono (fun a j hx => by
  simp only [XTe, lawJ, Bool.or_eq_false_iff, Bool.and_eq_false_iff, beq_eq_false_iff_ne, decide_eq_false_iff_not] at hx
  simp only [XLaw, XLt, Bool.or_eq_false_iff, Bool.and_eq_false_iff, beq_eq_false_iff_ne, decide_eq_false_iff_not]
  omega) (fun _ h => h)
theorem XFl_Te (d : Df XFl S S') : D2 (XTe sd) YNo S S' := (D2.of d).mono (fun a j hx => by
  simp only [XTe, Bool.or_eq_false_iff, Bool.and_eq_false_iff, beq_eq_false_iff_ne, decide_eq_false_iff_not] at hx
  simp only [XFl, Bool.or_eq_false_iff, Bool.and_eq_false_iff, beq_eq_false_iff_ne]
  omega) (fun _ h => h)
theorem RTk.te (h : RTk c L S) (d : D2 (XTe sd) YNo S S') : RTk c L S' := h.d2 d (fun a j h1 h2 => by
  simp only [XTe, lawJ, Bool.or_eq_false_iff, Bool.and_eq_false_iff, beq_eq_false_iff_ne, decide_eq_false_iff_not]
  omega) rfl
/-- a law that is one too many -/
theorem r_tellLaw4 {y : Nat × Nat} (hT : RTk c L S) (hy : RY c L y S) (hw : yW (tkK c L) y) (h0 : y.1 = 0) (hso : so < 2) (hsd : sd < 2) (h19 : S.1 95 19 = nI sd) (h125 : S.1 125 (2 * sd + so) = nI 4) : Ok (E_X12_tellLaw n S (nI so)) (fun S' => Df XFl S S') := by
  have ei : ((2 : Int32) * (S.1 95 19)) + nI so = nI (2 * sd + so) := by rw [h19, show (2 : Int32) = nI 2 from rfl, nI_mulN, nI_add]
  unfold E_X12_tellLaw
  rw [ei]
  apply Ok.step (rd_nI (by omega) (by decide))
  rw [h125]
  apply Ok.jnU
  refine Ok.ifT rfl ?_
  obtain ⟨S1, f1, d1, y1, _⟩ := r_fail (n := n) (f := 2) hT hy hw
  rw [if_pos h0] at y1
  apply Ok.step (show E_X12_fail n S (2 : Int32) = some S1 from f1)
  exact Ok.ifF (by rw [y1.1]; exact nI_nle (n := 2) (by decide) (by decide)) (Ok.ret d1)
theorem r_tellLs {Y : SY} {M : SM} (hn : 30000 ≤ n) (hT : RTk c L S) (hsd : sd < 2) (h : RRt c L sd Y M S) (h0 : Y.1.1 = 0) (hso : so < 2) (hk : tkK c L Y.1.2 = 9 + so) : Ok (E_X12_tellLaw n S (nI so)) (fun S' => D2 (XTe sd) YNo S S' ∧ RRt c L sd (syT (tkK c L) (tkV c L) Y) (seT (tkK c L) (tkV c L) Y.2.1 Y.1.2 M) S') := by
  obtain ⟨S1, f1, ⟨lt, cb, l1, l2, l3, d1⟩, hR⟩ := r_tellL (n := n) hn hT hsd h h0 hso hk
  refine ⟨S1, f1, ?_, hR⟩
  by_cases c4 : Y.2.1 (9 + so) = 4
  · obtain ⟨hy0, hw, h19, hd⟩ := h
    obtain ⟨hcm, hcr, _⟩ := hd h0
    obtain ⟨S2, f2, d2⟩ := r_tellLaw4 (n := n) hT hy0 hw h0 hso hsd h19 (by rw [hcr.2.2 so hso, c4])
    rw [f1] at f2
    rw [← Option.some.inj f2] at d2
    exact XFl_Te d2
  · exact XLaw_Te hso (by omega) l1 l2 d1
theorem r_tell {Y : SY} {M : SM} (hn : 30000 ≤ n) (hLb : L ≤ 2000) (hT : RTk c L S) (hsd : sd < 2) (h : RRt c L sd Y M S) (h0 : Y.1.1 = 0) : Ok (E_X12_tell n S) (fun S' => D2 (XTe sd) YNo S S' ∧ RRt c L sd (syT (tkK c L) (tkV c L) Y) (seT (tkK c L) (tkV c L) Y.2.1 Y.1.2 M) S') := by
  have hy0 := h.1
  have hw := h.2.1
  have hw2 := hw.2.1
  have hkl := tkK_le (c := c) (L := L) (j := Y.1.2)
  unfold E_X12_tell
  rw [hy0.2.1 h0]
  have e98 : rd (S.1 98) 403 (nI Y.1.2) = some (nI (kR (tkK c L Y.1.2))) := by rw [rd_nI (by omega) (by decide), hT.k hw]
  have fl : 11 ≤ tkK c L Y.1.2 → Ok ((E_X12_fail n S (1 : Int32)).bind fun S3 => some S3) (fun S' => D2 (XTe sd) YNo S S' ∧ RRt c L sd (syT (tkK c L) (tkV c L) Y) (seT (tkK c L) (tkV c L) Y.2.1 Y.1.2 M) S') := fun hk => by
    obtain ⟨S1, f1, d1, y1, _⟩ := r_fail (n := n) (f := 1) hT hy0 hw
    rw [if_pos h0] at y1
    apply Ok.step (show E_X12_fail n S (1 : Int32) = some S1 from f1)
    refine Ok.ret ⟨XFl_Te d1, ?_⟩
    rw [syT_f (by omega)]
    refine ⟨y1, ⟨(by decide : (1 : Nat) ≤ 2), hw.2⟩, ?_, fun z => by cases z⟩
    rw [d1.2 _ _ rfl]; exact h.2.2.1
  apply Ok.step e98
  apply Ok.jnU
  apply Ok.jnU
  have hcs : tkK c L Y.1.2 = 0 ∨ tkK c L Y.1.2 = 1 ∨ tkK c L Y.1.2 = 2 ∨ tkK c L Y.1.2 = 3 ∨ tkK c L Y.1.2 = 4 ∨ tkK c L Y.1.2 = 5 ∨ tkK c L Y.1.2 = 6 ∨ tkK c L Y.1.2 = 7 ∨ tkK c L Y.1.2 = 8 ∨ tkK c L Y.1.2 = 9 ∨ tkK c L Y.1.2 = 10 ∨ tkK c L Y.1.2 = 11 ∨ 12 ≤ tkK c L Y.1.2 := by omega
  rcases hcs with hk | hk | hk | hk | hk | hk | hk | hk | hk | hk | hk | hk | hk
  · rw [hk]
    refine Ok.ifT (by decide) ?_
    exact (r_tell0 (n := n) hn hLb hT hsd h h0 hk).mono (fun S' q => ⟨XTs_Te (by decide) q.1, q.2⟩)
  · rw [hk]
    refine Ok.ifF (by decide) (Ok.ifT (by decide) ?_)
    obtain ⟨S1, f1, hR⟩ := r_tell1 (n := n) hn hLb hT hsd h h0 hk
    apply Ok.step f1
    exact Ok.ret ⟨XTs_Te (by decide) hR.1, hR.2⟩
  · rw [hk]
    refine Ok.ifF (by decide) (Ok.ifF (by decide) (Ok.ifF (by decide) (Ok.ifT (by decide) ?_)))
    exact (r_tell2 (n := n) hn hLb hT hsd h h0 hk).mono (fun S' q => ⟨XTs_Te (by decide) q.1, q.2⟩)
  · rw [hk]
    refine Ok.ifF (by decide) (Ok.ifF (by decide) (Ok.ifF (by decide) (Ok.ifF (by decide) (Ok.ifT (by decide) ?_))))
    exact (r_tell3 (n := n) hn hLb hT hsd h h0 hk).mono (fun S' q => ⟨XTs_Te (by decide) q.1, q.2⟩)
  · rw [hk]
    refine Ok.ifF (by decide) (Ok.ifF (by decide) (Ok.ifF (by decide) (Ok.ifF (by decide) (Ok.ifF (by decide) (Ok.ifT (by decide) ?_)))))
    obtain ⟨S1, f1, hR⟩ := r_tell4 (n := n) hn hLb hT hsd h h0 hk
    apply Ok.step f1
    exact Ok.ret ⟨XTs_Te (by decide) hR.1, hR.2⟩
  · rw [hk]
    refine Ok.ifF (by decide) (Ok.ifF (by decide) (Ok.ifF (by decide) (Ok.ifF (by decide) (Ok.ifF (by decide) (Ok.ifF (by decide) (Ok.ifT (by decide) ?_))))))
    exact (r_tell5 (n := n) hn hLb hT hsd h h0 hk).mono (fun S' q => ⟨XTs_Te (by decide) q.1, q.2⟩)
  · rw [hk]
    refine Ok.ifF (by decide) (Ok.ifF (by decide) (Ok.ifF (by decide) (Ok.ifF (by decide) (Ok.ifF (by decide) (Ok.ifF (by decide) (Ok.ifF (by decide) (Ok.ifT (by decide) ?_)))))))
    exact (r_tell6 (n := n) hn hLb hT hsd h h0 hk).mono (fun S' q => ⟨XTs_Te (by decide) q.1, q.2⟩)
  · rw [hk]
    refine Ok.ifF (by decide) (Ok.ifF (by decide) (Ok.ifF (by decide) (Ok.ifF (by decide) (Ok.ifF (by decide) (Ok.ifF (by decide) (Ok.ifF (by decide) (Ok.ifF (by decide) (Ok.ifT (by decide) ?_))))))))
    exact (r_tell7 (n := n) hn hLb hT hsd h h0 hk).mono (fun S' q => ⟨XTs_Te (by decide) q.1, q.2⟩)
  · rw [hk]
    refine Ok.ifF (by decide) (Ok.ifF (by decide) (Ok.ifF (by decide) (Ok.ifF (by decide) (Ok.ifF (by decide) (Ok.ifF (by decide) (Ok.ifF (by decide) (Ok.ifF (by decide) (Ok.ifF (by decide) (Ok.ifT (by decide) ?_)))))))))
    exact (r_tell8 (n := n) hn hLb hT hsd h h0 hk).mono (fun S' q => ⟨XTs_Te (by decide) q.1, q.2⟩)
  · refine Ok.ifF (by rw [hk]; decide) (Ok.ifF (by rw [hk]; decide) (Ok.ifF (by rw [hk]; decide) (Ok.ifF (by rw [hk]; decide) (Ok.ifF (by rw [hk]; decide) (Ok.ifF (by rw [hk]; decide) (Ok.ifF (by rw [hk]; decide) (Ok.ifF (by rw [hk]; decide) (Ok.ifF (by rw [hk]; decide) (Ok.ifF (by rw [hk]; decide) (Ok.ifT (by rw [hk]; decide) ?_))))))))))
    apply Ok.step e98
    rw [hk]
    obtain ⟨S1, f1, hR⟩ := r_tellLs (n := n) (so := 0) hn hT hsd h h0 (by decide) hk
    apply Ok.step (show E_X12_tellLaw n S (nI (kR 9) - (30 : Int32)) = some S1 from f1)
    exact Ok.ret hR
  · refine Ok.ifF (by rw [hk]; decide) (Ok.ifF (by rw [hk]; decide) (Ok.ifF (by rw [hk]; decide) (Ok.ifF (by rw [hk]; decide) (Ok.ifF (by rw [hk]; decide) (Ok.ifF (by rw [hk]; decide) (Ok.ifF (by rw [hk]; decide) (Ok.ifF (by rw [hk]; decide) (Ok.ifF (by rw [hk]; decide) (Ok.ifF (by rw [hk]; decide) (Ok.ifF (by rw [hk]; decide) (Ok.ifT (by rw [hk]; decide) ?_)))))))))))
    apply Ok.step e98
    rw [hk]
    obtain ⟨S1, f1, hR⟩ := r_tellLs (n := n) (so := 1) hn hT hsd h h0 (by decide) hk
    apply Ok.step (show E_X12_tellLaw n S (nI (kR 10) - (30 : Int32)) = some S1 from f1)
    exact Ok.ret hR
  · refine Ok.ifF (by rw [hk]; decide) (Ok.ifF (by rw [hk]; decide) (Ok.ifT (by rw [hk]; decide) ?_))
    exact fl (by omega)
  · have hno : ∀ k : Fin 36, 12 ≤ k.val → ¬ nI (kR k.val) = (20 : Int32) ∧ ¬ nI (kR k.val) = (21 : Int32) ∧ ¬ nI (kR k.val) = (22 : Int32) ∧ ¬ nI (kR k.val) = (23 : Int32) ∧ ¬ nI (kR k.val) = (24 : Int32) ∧ ¬ nI (kR k.val) = (25 : Int32) ∧ ¬ nI (kR k.val) = (26 : Int32) ∧ ¬ nI (kR k.val) = (27 : Int32) ∧ ¬ nI (kR k.val) = (28 : Int32) ∧ ¬ nI (kR k.val) = (29 : Int32) ∧ ¬ nI (kR k.val) = (30 : Int32) ∧ ¬ nI (kR k.val) = (31 : Int32) := by decide
    obtain ⟨a1, a2, a3, a4, a5, a6, a7, a8, a9, a10, a11, a12⟩ := hno ⟨tkK c L Y.1.2, by omega⟩ hk
    refine Ok.ifF a1 (Ok.ifF a2 (Ok.ifF a3 (Ok.ifF a4 (Ok.ifF a5 (Ok.ifF a6 (Ok.ifF a7 (Ok.ifF a8 (Ok.ifF a9 (Ok.ifF a10 (Ok.ifF a11 (Ok.ifF a12 ?_)))))))))))
    exact fl (by omega)
/-- all tells -/
theorem r_tells {β : Type} {M0 : SM} {g : ST → Option β} {R : β → Prop} (hn : 30000 ≤ n) (hLb : L ≤ 2000) (hT : RTk c L S) (hsd : sd < 2) (h : RRt c L sd sy0 M0 S)
    (hg : ∀ S' M, D2 (XTe sd) YNo S S' → RRt c L sd (syR (tkK c L) (tkV c L) 402 sy0) M S' → ((syR (tkK c L) (tkV c L) 402 sy0).1.1 = 0 → M = smR (tkK c L) (tkV c L) 402 sy0 M0) → Ok (g S') R) :
    Ok ((iter (fun (s23 : ST) => if (s23.1 95 13) = 0 then (E_X12_is n s23 (0 : Int32)).bind fun v25 => if v25 = 0 then (E_X12_tell n s23 ).bind fun S28 => some (.inl S28) else some (.inr s23) else some (.inr s23)) n S).bind g) R := by
  have hms : ∀ y : Nat × Nat, cms y ≤ 401 := fun y => by unfold cms; split <;> omega
  obtain ⟨YF, hYF⟩ : ∃ YF, YF = syR (tkK c L) (tkV c L) 402 sy0 := ⟨_, rfl⟩
  rw [← hYF] at hg
  refine bindW (fun d (s : ST) => ∃ i Y M, d = cms Y.1 ∧ i + cms Y.1 ≤ 401 ∧ syR (tkK c L) (tkV c L) (402 - i) Y = YF ∧ (YF.1.1 = 0 → smR (tkK c L) (tkV c L) (402 - i) Y M = smR (tkK c L) (tkV c L) 402 sy0 M0) ∧ D2 (XTe sd) YNo S s ∧ RRt c L sd Y M s) (cms sy0.1) (fun S' => ∃ M, D2 (XTe sd) YNo S S' ∧ RRt c L sd YF M S' ∧ (YF.1.1 = 0 → M = smR (tkK c L) (tkV c L) 402 sy0 M0)) (by have := hms sy0.1; omega) ⟨0, sy0, M0, rfl, by have := hms sy0.1; omega, hYF.symm, fun _ => rfl, D2.refl _ _ _, h⟩ ?_ (fun S' q => by
    obtain ⟨M, q1, q2, q3⟩ := q
    exact hg S' M q1 q2 q3)
  rintro d S1 ⟨i, Y, M, rfl, hi, hY, hM, d1, hR⟩
  have hw := hR.2.1
  have hw1 := hw.1
  have e402 : 402 - i = (401 - i) + 1 := by omega
  rw [e402] at hY hM
  rw [syR] at hY
  rw [smR] at hM
  have done : (Y.1.1 ≠ 0 ∨ tkK c L Y.1.2 = 35) → ∃ M, D2 (XTe sd) YNo S S1 ∧ RRt c L sd YF M S1 ∧ (YF.1.1 = 0 → M = smR (tkK c L) (tkV c L) 402 sy0 M0) := fun hd => by
    rw [if_pos hd] at hY hM
    exact ⟨M, d1, hY ▸ hR, hM⟩
  by_cases h0 : Y.1.1 = 0
  case neg =>
    refine Ok.ifF (fun z => h0 ?_) (Ok.inr (done (Or.inl h0)))
    rw [hR.1.1] at z
    exact (nI_eq (b := 0) (by omega) (by decide)).mp z
  refine Ok.ifT (by rw [hR.1.1, h0]; rfl) ?_
  have hT1 := hT.te d1
  have ei := r_is (n := n) (k := 35) hT1 hR.1 hw (by decide)
  apply Ok.step (show E_X12_is n S1 (0 : Int32) = _ from ei)
  by_cases h35 : tkK c L Y.1.2 = 35
  · rw [decide_eq_true ⟨h0, h35⟩]
    exact Ok.ifF (by decide) (Ok.inr (done (Or.inr h35)))
  rw [decide_eq_false (fun q => h35 q.2)]
  refine Ok.ifT rfl ?_
  rw [if_neg (by omega)] at hY hM
  obtain ⟨S2, f2, d2, hR2⟩ := r_tell (n := n) hn hLb hT1 hsd hR h0
  apply Ok.step f2
  obtain ⟨g1, g2⟩ := syT_w (V := tkV c L) hw h0
  refine Ok.inl ⟨_, g2, i + 1, _, _, rfl, by omega, ?_, fun z => ?_, d1.trans d2, hR2⟩
  · rw [show 402 - (i + 1) = 401 - i by omega]; exact hY
  · rw [show 402 - (i + 1) = 401 - i by omega]
    have hMz := hM z
    by_cases e : (syT (tkK c L) (tkV c L) Y).1.1 = 0
    · rw [if_pos e] at hMz; exact hMz
    · rw [syR_done (Or.inl e)] at hY
      rw [← hY] at z
      exact absurd z e
end RTA
