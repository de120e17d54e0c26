/-! ===== the class is told: the tells ===== -/
def XCd (w a j : Nat) : Bool := (a == 18 && (j == 4 || (j == 5 || j == 6))) || ((a == 20 || a == 21) || (decide (w + 1 ≤ a ∧ a ≤ w + 12) || a == w + 21))
theorem cIn_none {V : Nat → Nat} {lo hi j : Nat} (h : cIn V lo hi j = none) : lo ≤ V j ∧ V j ≤ hi := by
  unfold cIn at h
  split at h
  · assumption
  · cases h
section TOK
variable {K V : Nat → Nat} {m : Nat} {y : Nat × Nat}
theorem tk_00 {k j : Nat} (h : (tk K k (0, j)).1 = 0) : K j = k ∧ tk K k (0, j) = (0, j + 1) := by
  obtain ⟨_, a2, _, a4⟩ := tk_0 h
  exact ⟨a2, a4⟩
theorem tk_n0 {k : Nat} {z : Nat × Nat} (h : (tk K k z).1 = 0) : z.1 = 0 := (tk_0 h).1
theorem tok_0 (hw : yW K y) (z : (tY K V 0 m y).1 = 0) : K (y.2 + 1) = 20 ∧ (tY K V 0 m y).2 = y.2 + 3 := by
  obtain ⟨_, _, s3, s4⟩ := beg_0 hw (by decide) z
  have s3' : (tk K 20 (0, y.2 + 1)).1 = 0 := s3
  have s4' : tY K V 0 m y = (0, (tk K 20 (0, y.2 + 1)).2 + 1) := s4
  obtain ⟨a1, a2⟩ := tk_00 s3'
  rw [s4', a2]
  exact ⟨a1, rfl⟩
theorem tok_1 (hw : yW K y) (z : (tY K V 1 m y).1 = 0) : K (y.2 + 1) = 20 ∧ K (y.2 + 2) = 21 ∧ (K (y.2 + 3) = 11 → K (y.2 + 4) = 21 ∧ (tY K V 1 m y).2 = y.2 + 6) ∧ (K (y.2 + 3) ≠ 11 → (tY K V 1 m y).2 = y.2 + 4) := by
  obtain ⟨_, _, s3, s4⟩ := beg_0 hw (by decide) z
  have s3' : (birY K (tk K 21 (tk K 20 (0, y.2 + 1)))).1 = 0 := s3
  have s4' : tY K V 1 m y = (0, (birY K (tk K 21 (tk K 20 (0, y.2 + 1)))).2 + 1) := s4
  have h0 : (tk K 21 (tk K 20 (0, y.2 + 1))).1 = 0 := by
    unfold birY at s3'
    split at s3'
    · rename_i h; exact h.1
    · exact s3'
  obtain ⟨a1, a2⟩ := tk_00 (tk_n0 h0)
  rw [a2] at h0 s3' s4'
  obtain ⟨b1, b2⟩ := tk_00 h0
  have b2' : tk K 21 (0, y.2 + 2) = (0, y.2 + 3) := b2
  have s3 : (birY K (tk K 21 (0, y.2 + 2))).1 = 0 := s3'
  have s4 : tY K V 1 m y = (0, (birY K (tk K 21 (0, y.2 + 2))).2 + 1) := s4'
  rw [b2'] at s3 s4
  unfold birY at s3 s4
  refine ⟨a1, b1, fun c => ?_, fun c => ?_⟩
  · rw [if_pos ⟨rfl, c⟩] at s3 s4
    obtain ⟨q1, q2⟩ := tk_00 (tk_n0 s3)
    rw [q2] at s3 s4
    obtain ⟨r1, r2⟩ := tk_00 s3
    rw [r2] at s4
    rw [s4]
    exact ⟨r1, rfl⟩
  · rw [if_neg (fun q => c q.2)] at s4
    rw [s4]
theorem tok_2 (hw : yW K y) (z : (tY K V 2 m y).1 = 0) : K (y.2 + 1) = 20 ∧ K (y.2 + 2) = 21 ∧ (tY K V 2 m y).2 = y.2 + 4 := by
  obtain ⟨_, _, s3, s4⟩ := beg_0 hw (by decide) z
  have s3' : (tk K 21 (tk K 20 (0, y.2 + 1))).1 = 0 := s3
  have s4' : tY K V 2 m y = (0, (tk K 21 (tk K 20 (0, y.2 + 1))).2 + 1) := s4
  obtain ⟨a1, a2⟩ := tk_00 (tk_n0 s3')
  rw [a2] at s3' s4'
  obtain ⟨b1, b2⟩ := tk_00 s3'
  rw [b2] at s4'
  rw [s4']
  exact ⟨a1, b1, rfl⟩
theorem tok_35 {k : Nat} (hk : k = 3 ∨ k = 5) (hw : yW K y) (z : (tY K V k m y).1 = 0) : (tY K V k m y).2 = y.2 + 4 := by
  obtain ⟨_, _, s3, s4⟩ := beg_0 hw (by omega) z
  have e : pfx K V k (0, y.2 + 1) = tk K 20 (tk K 20 (0, y.2 + 1)) := by
    rcases hk with h | h
    · subst h; rfl
    · subst h; rfl
  rw [e] at s3 s4
  obtain ⟨a1, a2⟩ := tk_00 (tk_n0 s3)
  rw [a2] at s3 s4
  obtain ⟨b1, b2⟩ := tk_00 s3
  rw [b2] at s4
  rw [s4]
theorem tok_4 (hw : yW K y) (z : (tY K V 4 m y).1 = 0) : K (y.2 + 3) = 21 ∧ K (y.2 + 4) = 21 ∧ (tY K V 4 m y).2 = y.2 + 6 := by
  obtain ⟨_, _, s3, s4⟩ := beg_0 hw (by decide) z
  have s3' : (tk K 21 (tk K 21 (tk K 20 (tk K 20 (0, y.2 + 1))))).1 = 0 := s3
  have s4' : tY K V 4 m y = (0, (tk K 21 (tk K 21 (tk K 20 (tk K 20 (0, y.2 + 1))))).2 + 1) := s4
  obtain ⟨a1, a2⟩ := tk_00 (tk_n0 (tk_n0 (tk_n0 s3')))
  rw [a2] at s3' s4'
  obtain ⟨b1, b2⟩ := tk_00 (tk_n0 (tk_n0 s3'))
  rw [b2] at s3' s4'
  obtain ⟨c1, c2⟩ := tk_00 (tk_n0 s3')
  rw [c2] at s3' s4'
  obtain ⟨d1, d2⟩ := tk_00 s3'
  rw [d2] at s4'
  rw [s4']
  exact ⟨c1, d1, rfl⟩
theorem tok_67 {k : Nat} (hk : k = 6 ∨ k = 7) (hw : yW K y) (z : (tY K V k m y).1 = 0) : K (y.2 + 3) = 21 ∧ (tY K V k m y).2 = y.2 + 5 := by
  obtain ⟨_, _, s3, s4⟩ := beg_0 hw (by omega) z
  have e : pfx K V k (0, y.2 + 1) = tk K 21 (tk K 20 (tk K 20 (0, y.2 + 1))) := by
    rcases hk with h | h
    · subst h; rfl
    · subst h; rfl
  rw [e] at s3 s4
  obtain ⟨a1, a2⟩ := tk_00 (tk_n0 (tk_n0 s3))
  rw [a2] at s3 s4
  obtain ⟨b1, b2⟩ := tk_00 (tk_n0 s3)
  rw [b2] at s3 s4
  obtain ⟨c1, c2⟩ := tk_00 s3
  rw [c2] at s4
  rw [s4]
  exact ⟨c1, rfl⟩
end TOK
section CTE
variable {n L w e i : Nat} {c : Nat → Nat} {cnt : Nat → Nat} {W W' : VW} {T : NTb} {S S' : ST}
theorem XNw_Cd {m : Nat} (hw : w = 22 ∨ w = 47) (d : D2 (XNw m) YNw S S') : D2 (XCd w) YNw S S' := d.mono (fun a j hx => by
  simp only [XCd, XNw, Bool.or_eq_false_iff, Bool.and_eq_false_iff, beq_eq_false_iff_ne, decide_eq_false_iff_not] at hx ⊢
  omega) (fun _ h => h)
theorem XFc_Cd (d : Df XFc S S') : D2 (XCd w) YNw S S' := (D2.of d).mono (fun a j hx => by
  simp only [XCd, XFc, Bool.or_eq_false_iff, Bool.and_eq_false_iff, beq_eq_false_iff_ne, decide_eq_false_iff_not] at hx ⊢
  omega) (fun _ h => h)
theorem add_Cd (l : S'.2 = S.2) (o : ∀ a j, (a < w + 1 ∨ (w + 12 < a ∧ a ≠ w + 21)) → S'.1 a j = S.1 a j) : D2 (XCd w) YNw S S' := ⟨fun a _ => congrFun l a, fun a j hx => o a j (by
  simp only [XCd, Bool.or_eq_false_iff, Bool.and_eq_false_iff, beq_eq_false_iff_ne, decide_eq_false_iff_not] at hx
  omega)⟩
theorem CTd.nw {m : Nat} (hw : w = 22 ∨ w = 47) (h : CTd w cnt W S) (d : D2 (XNw m) YNw S S') : CTd w cnt W S' := h.fr (fun a j h1 h2 => d.2 _ _ (by
  simp only [XNw, Bool.or_eq_false_iff, Bool.and_eq_false_iff, beq_eq_false_iff_ne]
  omega))
theorem CTd.fc (hw : w = 22 ∨ w = 47) (h : CTd w cnt W S) (d : Df XFc S S') : CTd w cnt W S' := h.fr (fun a j h1 h2 => d.2 _ _ (by
  simp only [XFc, Bool.or_eq_false_iff, Bool.and_eq_false_iff, beq_eq_false_iff_ne]
  omega))
/-- what a tell of the class does -/
def CRs (c : Nat → Nat) (L w : Nat) (cnt : Nat → Nat) (T : NTb) (W : VW) (k i : Nat) (S S' : ST) : Prop := D2 (XCd w) YNw S S' ∧ FC (semF (tkK c L) (tkV c L) T k i) S' ∧ (semF (tkK c L) (tkV c L) T k i = none → NTC (semT (tkV c L) T k (cnt k) i) S' ∧ CTd w (upN cnt k (cnt k + 1)) (semW (tkK c L) (tkV c L) T k (cnt k) i W) S')
theorem semW_hW {K V : Nat → Nat} {k m : Nat} : ∀ r j, 1 ≤ r → r ≤ 17 → (rowR r ≠ k ∨ j ≠ m) → semW K V T k m i W r j = W r j := fun r j h1 h2 h3 => by
  rcases h3 with h | h
  · exact semW_rk h1 h2 h
  · exact semW_ne h
theorem c_tell0 (hn : 30000 ≤ n) (hw : w = 22 ∨ w = 47) (hB : CBg c L e T none S) (hlen : T.length < 32) (hC : CTd w cnt W S) (hm : cnt 0 < 6) (h1 : i + 1 < e) : Ok (E_X8_tellBeing n S w (0 : Int32) (nI i)) (CRs c L w cnt T W 0 i S) := by
  unfold E_X8_tellBeing
  rw [nI_1]
  obtain ⟨S2, f2, d2, T', b2, g2, _⟩ := c_new (n := n) (k := 0) (m := cnt 0) hn hB h1 (by decide) hw (hC.1 0 (by decide)) (by omega) hlen
  apply Ok.step (show E_X8_newName n S w (0 : Int32) (nI (i + 1)) = some S2 from f2)
  refine Ok.ifT rfl ?_
  have hC2 := hC.nw hw d2
  obtain ⟨S3, f3, l3, o3, v3⟩ := c_addPlace (n := n) hw (hC2.1 0 (by decide)) hm
  apply Ok.step f3
  have b3 := b2.fr l3 (fun a j h => o3 _ _ (by omega))
  refine Ok.ret ⟨(XNw_Cd hw d2).trans (add_Cd l3 (fun a j h => o3 _ _ (by omega))), b3.2.2.2.1, fun hF => ?_⟩
  have eT : T' = semT (tkV c L) T 0 (cnt 0) i := g2 hF
  rw [← eT]
  refine ⟨b3.2.1, hC2.up (k := 0) semW_hW v3 (fun j h => o3 _ _ (Or.inr h)) (fun q hq h => ?_) (fun q hq j h => by
      simp only [TC, List.mem_cons, List.not_mem_nil, or_false] at hq
      rcases hq with q1 | q1 | q1 | q1 | q1 | q1 | q1 | q1 | q1
      all_goals
        subst q1
        dsimp only at h ⊢
        exact o3 _ _ (by omega)) (fun _ a => o3 _ _ (by omega)) (fun z => absurd z (by decide)) (fun _ a => o3 _ _ (by omega)) (fun z => absurd z (by decide)) (fun _ a => o3 _ _ (by omega)) (fun z => absurd z (by decide))⟩
  exact absurd h ((by decide : ∀ q ∈ TC, q.2.2 ≠ 0) q hq)
theorem c_tell2 (hn : 30000 ≤ n) (hw : w = 22 ∨ w = 47) (hB : CBg c L e T none S) (hlen : T.length < 32) (hC : CTd w cnt W S) (hm : cnt 2 < 6) (h2 : i + 2 < e) (hk2 : tkK c L (i + 2) = 21) : Ok (E_X8_tellBeing n S w (2 : Int32) (nI i)) (CRs c L w cnt T W 2 i S) := by
  unfold E_X8_tellBeing
  rw [nI_1, show nI i + (2 : Int32) = nI (i + 2) by rw [show (2 : Int32) = nI 2 from rfl, nI_add]]
  obtain ⟨S2, f2, d2, T', b2, g2, _⟩ := c_new (n := n) (k := 2) (m := cnt 2) hn hB (by omega : i + 1 < e) (by decide) hw (hC.1 2 (by decide)) (by omega) hlen
  apply Ok.step (show E_X8_newName n S w (2 : Int32) (nI (i + 1)) = some S2 from f2)
  refine Ok.ifF (by decide) ?_
  have hC2 := hC.nw hw d2
  obtain ⟨⟨v3, S3⟩, f3, e3, d3, b3⟩ := c_num (n := n) (lo := 0) (hi := 99) b2 h2 hk2 (by decide) (by decide)
  dsimp only at e3 d3 b3
  apply Ok.step (show E_X8_within n S2 (nI (i + 2)) (0 : Int32) (99 : Int32) = some (v3, S3) from f3)
  refine Ok.ifT rfl ?_
  have hC3 := hC2.fc hw d3
  obtain ⟨S4, f4, l4, o4, v4, v4'⟩ := c_addThing (n := n) (v := v3) hw (hC3.1 2 (by decide)) hm
  apply Ok.step f4
  have b4 := b3.fr l4 (fun a j h => o4 _ _ (by omega) (by omega))
  refine Ok.ret ⟨((XNw_Cd hw d2).trans (XFc_Cd d3)).trans (add_Cd l4 (fun a j h => o4 _ _ (by omega) (by omega))), b4.2.2.2.1, fun hF => ?_⟩
  have hF' : orF (cNew (tkV c L) T (i + 1)) (cIn (tkV c L) 0 99 (i + 2)) = none := hF
  obtain ⟨hF1, hF2⟩ := orF_none hF'
  have eT : T' = semT (tkV c L) T 2 (cnt 2) i := g2 hF1
  rw [← eT]
  refine ⟨b4.2.1, hC3.up (k := 2) semW_hW v4 (fun j h => o4 _ _ (Or.inr h) (by omega)) (fun q hq h => ?_) (fun q hq j h => by
      simp only [TC, List.mem_cons, List.not_mem_nil, or_false] at hq
      rcases hq with q1 | q1 | q1 | q1 | q1 | q1 | q1 | q1 | q1
      all_goals
        subst q1
        dsimp only at h ⊢
        exact o4 _ _ (by omega) (by omega)) (fun _ a => o4 _ _ (by omega) (by omega)) (fun z => absurd z (by decide)) (fun _ a => o4 _ _ (by omega) (by omega)) (fun z => absurd z (by decide)) (fun _ a => o4 _ _ (by omega) (by omega)) (fun z => absurd z (by decide))⟩
  have := (by decide : ∀ q ∈ TC, q.2.2 = 2 → q = (3, 4, 2)) q hq h
  subst this
  dsimp only
  rw [v4', e3, if_pos (cIn_none hF2)]
  show _ = nI (wS W 3 (cnt 2) (tkV c L (i + 2)) 3 (cnt 2))
  rw [wS_s]
theorem c_tell1 (hn : 30000 ≤ n) (hw : w = 22 ∨ w = 47) (hB : CBg c L e T none S) (hlen : T.length < 32) (hC : CTd w cnt W S) (hm : cnt 1 < 10) (h3 : i + 3 < e) (hk2 : tkK c L (i + 2) = 21) (hk4 : tkK c L (i + 3) = 11 → i + 4 < e ∧ tkK c L (i + 4) = 21) : Ok (E_X8_tellBeing n S w (1 : Int32) (nI i)) (CRs c L w cnt T W 1 i S) := by
  unfold E_X8_tellBeing
  rw [nI_1, show nI i + (2 : Int32) = nI (i + 2) by rw [show (2 : Int32) = nI 2 from rfl, nI_add], show nI i + (3 : Int32) = nI (i + 3) by rw [show (3 : Int32) = nI 3 from rfl, nI_add], show nI i + (4 : Int32) = nI (i + 4) by rw [show (4 : Int32) = nI 4 from rfl, nI_add]]
  obtain ⟨S2, f2, d2, T', b2, g2, _⟩ := c_new (n := n) (k := 1) (m := cnt 1) hn hB (by omega : i + 1 < e) (by decide) hw (hC.1 1 (by decide)) (by omega) hlen
  apply Ok.step (show E_X8_newName n S w (1 : Int32) (nI (i + 1)) = some S2 from f2)
  refine Ok.ifF (by decide) ?_
  have hC2 := hC.nw hw d2
  obtain ⟨⟨v3, S3⟩, f3, e3, d3, b3⟩ := c_num (n := n) (lo := 0) (hi := 99) b2 (by omega : i + 2 < e) hk2 (by decide) (by decide)
  dsimp only at e3 d3 b3
  apply Ok.step (show E_X8_within n S2 (nI (i + 2)) (0 : Int32) (99 : Int32) = some (v3, S3) from f3)
  refine Ok.ifF (by decide) ?_
  have hC3 := hC2.fc hw d3
  have he := b3.2.2.2.2.1
  apply Ok.step (c_kind (n := n) b3.1 (by omega : i + 3 ≤ 400))
  have hkl := tkK_le (c := c) (L := L) (j := i + 3)
  have fin : ∀ (S4 : ST) (u : Int32) (b : Nat), u = nI b → CTd w cnt W S4 → D2 (XCd w) YNw S S4 → CBg c L e T' (semF (tkK c L) (tkV c L) T 1 i) S4 → (semF (tkK c L) (tkV c L) T 1 i = none → b = bth (tkK c L) (tkV c L) i) → Ok ((E_X10_addPerson n S4 w v3 u).bind fun S15 => some S15) (CRs c L w cnt T W 1 i S) := fun S4 u b hu hC4 d4 b4 hb => by
    obtain ⟨S5, f5, l5, o5, v5, v5', v5''⟩ := c_addPerson (n := n) (v := v3) (u := u) hw (hC4.1 1 (by decide)) hm
    apply Ok.step f5
    have b5 := b4.fr l5 (fun a j h => o5 _ _ (by omega) (by omega))
    refine Ok.ret ⟨d4.trans (add_Cd l5 (fun a j h => o5 _ _ (by omega) (by omega))), b5.2.2.2.1, fun hF => ?_⟩
    have hF' : orF (cNew (tkV c L) T (i + 1)) (orF (cIn (tkV c L) 0 99 (i + 2)) (if tkK c L (i + 3) = 11 then cIn (tkV c L) 0 23 (i + 4) else none)) = none := hF
    obtain ⟨hF1, hF2⟩ := orF_none hF'
    obtain ⟨hF2, hF3⟩ := orF_none hF2
    have eT : T' = semT (tkV c L) T 1 (cnt 1) i := g2 hF1
    rw [← eT]
    refine ⟨b5.2.1, hC4.up (k := 1) semW_hW v5 (fun j h => o5 _ _ (Or.inr h) (by omega)) (fun q hq h => ?_) (fun q hq j h => by
      simp only [TC, List.mem_cons, List.not_mem_nil, or_false] at hq
      rcases hq with q1 | q1 | q1 | q1 | q1 | q1 | q1 | q1 | q1
      all_goals
        subst q1
        dsimp only at h ⊢
        exact o5 _ _ (by omega) (by omega)) (fun _ a => o5 _ _ (by omega) (by omega)) (fun z => absurd z (by decide)) (fun _ a => o5 _ _ (by omega) (by omega)) (fun z => absurd z (by decide)) (fun _ a => o5 _ _ (by omega) (by omega)) (fun z => absurd z (by decide))⟩
    have eW : semW (tkK c L) (tkV c L) T 1 (cnt 1) i W = wS (wS W 1 (cnt 1) (tkV c L (i + 2))) 2 (cnt 1) (bth (tkK c L) (tkV c L) i) := rfl
    rw [eW]
    rcases (by decide : ∀ q ∈ TC, q.2.2 = 1 → q = (1, 2, 1) ∨ q = (2, 3, 1)) q hq h with q1 | q1
    · subst q1
      dsimp only
      rw [v5', e3, if_pos (cIn_none hF2), wS_n (Or.inl (by decide)), wS_s]
    · subst q1
      dsimp only
      rw [v5'', hu, hb hF, wS_s]
  have d13 := (XNw_Cd hw d2).trans (XFc_Cd (w := w) d3)
  apply Ok.jnU
  by_cases c11 : tkK c L (i + 3) = 11
  · obtain ⟨q1, q2⟩ := hk4 c11
    refine Ok.ifT (by rw [c11]; rfl) ?_
    apply Ok.jnU
    refine Ok.ifF (by decide) ?_
    obtain ⟨⟨v4, S4⟩, f4, e4, d4, b4⟩ := c_num (n := n) (lo := 0) (hi := 23) b3 q1 q2 (by decide) (by decide)
    dsimp only at e4 d4 b4
    apply Ok.step (show E_X8_within n S3 (nI (i + 4)) (0 : Int32) (23 : Int32) = some (v4, S4) from f4)
    have eF : semF (tkK c L) (tkV c L) T 1 i = orF (orF (cNew (tkV c L) T (i + 1)) (cIn (tkV c L) 0 99 (i + 2))) (cIn (tkV c L) 0 23 (i + 4)) := by
      show orF (cNew (tkV c L) T (i + 1)) (orF (cIn (tkV c L) 0 99 (i + 2)) (if tkK c L (i + 3) = 11 then cIn (tkV c L) 0 23 (i + 4) else none)) = _
      rw [if_pos c11, orF_assoc]
    rw [← eF] at b4
    refine fin S4 v4 _ e4 (hC3.fc hw d4) (d13.trans (XFc_Cd d4)) b4 (fun hF => ?_)
    rw [eF] at hF
    rw [if_pos (cIn_none (orF_none hF).2)]
    unfold bth
    rw [if_pos c11]
  · refine Ok.ifF (fun z => c11 ((nI_eq (b := 11) (by omega) (by decide)).mp z)) ?_
    apply Ok.jnU
    refine Ok.ifT rfl ?_
    have eF : semF (tkK c L) (tkV c L) T 1 i = orF (cNew (tkV c L) T (i + 1)) (cIn (tkV c L) 0 99 (i + 2)) := by
      show orF (cNew (tkV c L) T (i + 1)) (orF (cIn (tkV c L) 0 99 (i + 2)) (if tkK c L (i + 3) = 11 then cIn (tkV c L) 0 23 (i + 4) else none)) = _
      rw [if_neg c11, orF_r]
    rw [← eF] at b3
    refine fin S3 (99 : Int32) 99 rfl hC3 d13 b3 (fun _ => ?_)
    unfold bth
    rw [if_neg c11]
theorem c_tell3 (hn : 30000 ≤ n) (hw : w = 22 ∨ w = 47) (hB : CBg c L e T none S) (hT : NTw cnt T) (hc0 : cnt 0 ≤ 6) (hC : CTd w cnt W S) (h2 : i + 2 < e) : Ok (E_X8_tellPlacing n S w (3 : Int32) (nI i)) (CRs c L w cnt T W 3 i S) := by
  unfold E_X8_tellPlacing
  rw [nI_1, show nI i + (2 : Int32) = nI (i + 2) by rw [show (2 : Int32) = nI 2 from rfl, nI_add]]
  apply Ok.jnU
  refine Ok.ifT rfl ?_
  obtain ⟨⟨v2, S2⟩, f2, e2, d2, b2⟩ := c_old (n := n) (k := 0) hn hB (by omega : i + 1 < e) (by decide)
  dsimp only at e2 d2 b2
  apply Ok.step (show E_X8_oldName n S (0 : Int32) (nI (i + 1)) = some (v2, S2) from f2)
  obtain ⟨⟨v3, S3⟩, f3, e3, d3, b3⟩ := c_old (n := n) (k := 0) hn b2 h2 (by decide)
  dsimp only at e3 d3 b3
  apply Ok.step (show E_X8_oldName n S2 (0 : Int32) (nI (i + 2)) = some (v3, S3) from f3)
  refine Ok.ifT rfl ?_
  have ha : oN (tkV c L) T 0 (i + 1) < 6 := oN_lt hT hc0 (by decide)
  have hb : oN (tkV c L) T 0 (i + 2) < 6 := oN_lt hT hc0 (by decide)
  generalize eA : oN (tkV c L) T 0 (i + 1) = A at *
  generalize eB : oN (tkV c L) T 0 (i + 2) = B at *
  subst e2 e3
  have hC3 := (hC.fc hw d2).fc hw d3
  have d13 := (XFc_Cd (w := w) d2).trans (XFc_Cd (w := w) d3)
  have eF0 : semF (tkK c L) (tkV c L) T 3 i = orF (cOld (tkV c L) T 0 (i + 1)) (orF (cOld (tkV c L) T 0 (i + 2)) (if oldN (tkV c L) T 0 (i + 1) = oldN (tkV c L) T 0 (i + 2) then some (5, i + 2) else none)) := rfl
  have eW : semW (tkK c L) (tkV c L) T 3 (cnt 3) i W = wS (wS W 4 (cnt 3) A) 5 (cnt 3) B := by rw [← eA, ← eB]; rfl
  -- the first fault
  have eF : semF (tkK c L) (tkV c L) T 3 i = if A = B then orF (orF (orF none (cOld (tkV c L) T 0 (i + 1))) (cOld (tkV c L) T 0 (i + 2))) (some (5, i + 2)) else orF (orF none (cOld (tkV c L) T 0 (i + 1))) (cOld (tkV c L) T 0 (i + 2)) := by
    rw [eF0, orF_n]
    cases h1 : oldN (tkV c L) T 0 (i + 1) with
    | none =>
      have : cOld (tkV c L) T 0 (i + 1) = some (4, i + 1) := by unfold cOld; rw [h1]; rfl
      rw [this]
      by_cases q : A = B
      · rw [if_pos q]; rfl
      · rw [if_neg q]; rfl
    | some x =>
      have q1 : cOld (tkV c L) T 0 (i + 1) = none := by unfold cOld; rw [h1]; rfl
      rw [q1]
      cases h2 : oldN (tkV c L) T 0 (i + 2) with
      | none =>
        have : cOld (tkV c L) T 0 (i + 2) = some (4, i + 2) := by unfold cOld; rw [h2]; rfl
        rw [this]
        by_cases q : A = B
        · rw [if_pos q]; rfl
        · rw [if_neg q]; rfl
      | some y =>
        have q2 : cOld (tkV c L) T 0 (i + 2) = none := by unfold cOld; rw [h2]; rfl
        rw [q2]
        have eA' : x = A := by rw [← eA, oN_of h1]
        have eB' : y = B := by rw [← eB, oN_of h2]
        subst eA' eB'
        by_cases q : x = y
        · rw [if_pos q, if_pos (by rw [q])]; rfl
        · rw [if_neg q, if_neg (fun z => q (Option.some.inj z))]; rfl
  refine jnH1 (fun S5 => D2 (XCd w) YNw S S5 ∧ CTd w cnt W S5 ∧ CBg c L e T (semF (tkK c L) (tkV c L) T 3 i) S5) ?_ (fun J hJ => ?_)
  case refine_2 =>
    by_cases q : A = B
    · refine Ok.ifT (by rw [q]) ?_
      obtain ⟨S4, f4, d4, b4⟩ := c_ref (n := n) (f := 5) (j := i + 2) b3 (by decide) (by decide)
      apply Ok.step (show E_X8_refuse n S3 (5 : Int32) (nI (i + 2)) = some S4 from f4)
      rw [if_pos q] at eF
      rw [← eF] at b4
      exact hJ S4 ⟨d13.trans (XFc_Cd d4), hC3.fc hw d4, b4⟩
    · refine Ok.ifF (fun z => q ((nI_eq (by omega) (by omega)).mp z)) ?_
      rw [if_neg q] at eF
      rw [← eF] at b3
      exact hJ S3 ⟨d13, hC3, b3⟩
  rintro S5 ⟨d5, hC5, b5⟩
  obtain ⟨S6, f6, l6, o6, v6, w6⟩ := c_addThin (n := n) (a := A) (b := B) hw (hC5.1 3 (by decide)) ha hb
  apply Ok.step f6
  have b6 := b5.fr l6 (fun a j h => o6 _ _ (by omega) (by omega))
  refine Ok.ret ⟨d5.trans (add_Cd l6 (fun a j h => o6 _ _ (by omega) (by omega))), b6.2.2.2.1, fun hF => ⟨b6.2.1, hC5.up (k := 3) semW_hW v6 (fun j h => o6 _ _ (Or.inr h) (by omega)) (fun q hq h => absurd h ((by decide : ∀ q ∈ TC, q.2.2 ≠ 3) q hq)) (fun q hq j h => by
      simp only [TC, List.mem_cons, List.not_mem_nil, or_false] at hq
      rcases hq with q1 | q1 | q1 | q1 | q1 | q1 | q1 | q1 | q1
      all_goals
        subst q1
        dsimp only at h ⊢
        exact o6 _ _ (by omega) (by omega)) (fun z => absurd rfl z) (fun _ a ha6 => ?_) (fun _ a => o6 _ _ (by omega) (by omega)) (fun z => absurd z (by decide)) (fun _ a => o6 _ _ (by omega) (by omega)) (fun z => absurd z (by decide))⟩⟩
  rw [w6 a, hC5.2.2.1 a ha6, eW]
  have old : ∀ x, thN (wS (wS W 4 (cnt 3) A) 5 (cnt 3) B) (cnt 3) a x = thN W (cnt 3) a x := fun x => thN_congr (fun r k q1 q2 q3 => by rw [wS_n (Or.inr (by omega)), wS_n (Or.inr (by omega))])
  have new : ∀ x, thN (wS (wS W 4 (cnt 3) A) 5 (cnt 3) B) (cnt 3 + 1) a x = (thN W (cnt 3) a x || decide ((A = a ∧ B = x) ∨ (A = x ∧ B = a))) := fun x => by
    show (thN _ (cnt 3) a x || _) = _
    rw [old]
    dsimp only
    rw [wS_n (Or.inl (by decide) : (4 : Nat) ≠ 5 ∨ _), wS_s, wS_s]
  refine bs_of (by decide) (fun x hx => ?_)
  rw [new x]
  by_cases q1 : a = B
  · rw [if_pos q1]
    by_cases q2 : a = A
    · rw [if_pos q2, b_or, b_or, bt_bs _ _ (by decide), bit_bt (by omega) hx, bit_bt (by omega) hx]
      by_cases q3 : x < 6
      · rw [decide_eq_true q3, Bool.true_and, Bool.true_and]
        by_cases q4 : x = A
        · simp [q4, ← q1, ← q2]
        · have q5 : ¬ A = x := fun z => q4 z.symm
          have q6 : ¬ x = B := fun z => q4 (by rw [z, ← q1, q2])
          have q7 : ¬ B = x := fun z => q6 z.symm
          simp [q4, q5, q6, q7]
      · have q4 : ¬ x = A := by omega
        have q5 : ¬ x = B := by omega
        simp [q3, q4, q5]
    · rw [if_neg q2, b_or, bt_bs _ _ (by decide), bit_bt (by omega) hx]
      have q8 : ¬ A = a := fun z => q2 z.symm
      by_cases q3 : x < 6
      · by_cases q4 : x = A
        · simp [q4, q1, ha]
        · have q5 : ¬ A = x := fun z => q4 z.symm
          simp [q3, q4, q5, q8]
      · have q4 : ¬ x = A := by omega
        simp [q3, q4]
  · rw [if_neg q1]
    have q9 : ¬ B = a := fun z => q1 z.symm
    by_cases q2 : a = A
    · rw [if_pos q2, b_or, bt_bs _ _ (by decide), bit_bt (by omega) hx]
      by_cases q3 : x < 6
      · by_cases q4 : x = B
        · simp [q4, q2, hb]
        · have q5 : ¬ B = x := fun z => q4 z.symm
          simp [q3, q4, q5, q9]
      · have q4 : ¬ x = B := by omega
        simp [q3, q4]
    · rw [if_neg q2, bt_bs _ _ (by decide)]
      have q8 : ¬ A = a := fun z => q2 z.symm
      simp [q8, q9]
theorem c_tell4 (hn : 30000 ≤ n) (hw : w = 22 ∨ w = 47) (hB : CBg c L e T none S) (hT : NTw cnt T) (hc0 : cnt 0 ≤ 6) (hc1 : cnt 1 ≤ 10) (hC : CTd w cnt W S) (h4 : i + 4 < e) (hk3 : tkK c L (i + 3) = 21) (hk4 : tkK c L (i + 4) = 21) : Ok (E_X8_tellPlacing n S w (4 : Int32) (nI i)) (CRs c L w cnt T W 4 i S) := by
  unfold E_X8_tellPlacing
  rw [nI_1, show nI i + (2 : Int32) = nI (i + 2) by rw [show (2 : Int32) = nI 2 from rfl, nI_add], show nI i + (3 : Int32) = nI (i + 3) by rw [show (3 : Int32) = nI 3 from rfl, nI_add], show nI i + (4 : Int32) = nI (i + 4) by rw [show (4 : Int32) = nI 4 from rfl, nI_add]]
  apply Ok.jnU
  refine Ok.ifF (by decide) ?_
  obtain ⟨⟨v2, S2⟩, f2, e2, d2, b2⟩ := c_old (n := n) (k := 1) hn hB (by omega : i + 1 < e) (by decide)
  dsimp only at e2 d2 b2
  apply Ok.step (show E_X8_oldName n S (1 : Int32) (nI (i + 1)) = some (v2, S2) from f2)
  obtain ⟨⟨v3, S3⟩, f3, e3, d3, b3⟩ := c_old (n := n) (k := 0) hn b2 (by omega : i + 2 < e) (by decide)
  dsimp only at e3 d3 b3
  apply Ok.step (show E_X8_oldName n S2 (0 : Int32) (nI (i + 2)) = some (v3, S3) from f3)
  refine Ok.ifF (by decide) ?_
  obtain ⟨⟨v4, S4⟩, f4, e4, d4, b4⟩ := c_num (n := n) (lo := 0) (hi := 23) b3 (by omega : i + 3 < e) hk3 (by decide) (by decide)
  dsimp only at e4 d4 b4
  apply Ok.step (show E_X8_within n S3 (nI (i + 3)) (0 : Int32) (23 : Int32) = some (v4, S4) from f4)
  obtain ⟨F, eF⟩ : ∃ F, F = if 0 ≤ tkV c L (i + 3) ∧ tkV c L (i + 3) ≤ 23 then tkV c L (i + 3) else 0 := ⟨_, rfl⟩
  have hF23 : F ≤ 23 := by rw [eF]; split <;> omega
  rw [← eF] at e4
  obtain ⟨⟨v5, S5⟩, f5, e5, d5, b5⟩ := c_num (n := n) (lo := F) (hi := 23) b4 h4 hk4 (by omega) (by decide)
  dsimp only at e5 d5 b5
  rw [e4]
  apply Ok.step (show E_X8_within n S4 (nI (i + 4)) (nI F) (23 : Int32) = some (v5, S5) from f5)
  obtain ⟨G, eG⟩ : ∃ G, G = if F ≤ tkV c L (i + 4) ∧ tkV c L (i + 4) ≤ 23 then tkV c L (i + 4) else F := ⟨_, rfl⟩
  rw [← eG] at e5
  have hG : F ≤ G ∧ G < 24 := by rw [eG]; split <;> omega
  have ha : oN (tkV c L) T 1 (i + 1) < 10 := oN_lt hT hc1 (by decide)
  have hC5 := (((hC.fc hw d2).fc hw d3).fc hw d4).fc hw d5
  have d15 := (((XFc_Cd (w := w) d2).trans (XFc_Cd d3)).trans (XFc_Cd d4)).trans (XFc_Cd d5)
  rw [e2, e5]
  obtain ⟨S6, f6, l6, o6, v6, w6⟩ := c_addStay (n := n) (b := v3) hn hw (hC5.1 4 (by decide)) ha hG.1 hG.2
  apply Ok.step f6
  have b6 := b5.fr l6 (fun a j h => o6 _ _ (by omega) (by omega))
  have eS : semF (tkK c L) (tkV c L) T 4 i = orF (cOld (tkV c L) T 1 (i + 1)) (orF (cOld (tkV c L) T 0 (i + 2)) (orF (cIn (tkV c L) 0 23 (i + 3)) (cIn (tkV c L) (tkV c L (i + 3)) 23 (i + 4)))) := rfl
  have eW : semW (tkK c L) (tkV c L) T 4 (cnt 4) i W = wS (wS (wS (wS W 6 (cnt 4) (oN (tkV c L) T 1 (i + 1))) 7 (cnt 4) (oN (tkV c L) T 0 (i + 2))) 8 (cnt 4) (tkV c L (i + 3))) 9 (cnt 4) (tkV c L (i + 4)) := rfl
  have e6 : orF (orF (orF (orF none (cOld (tkV c L) T 1 (i + 1))) (cOld (tkV c L) T 0 (i + 2))) (cIn (tkV c L) 0 23 (i + 3))) (cIn (tkV c L) F 23 (i + 4)) = semF (tkK c L) (tkV c L) T 4 i := by
    rw [eS, orF_n, orF_assoc, orF_assoc]
    congr 2
    cases h : cIn (tkV c L) 0 23 (i + 3) with
    | some x => rfl
    | none =>
      have h2 := cIn_none h
      rw [orF_n, orF_n, eF, if_pos h2]
  rw [e6] at b6
  refine Ok.ret ⟨d15.trans (add_Cd l6 (fun a j h => o6 _ _ (by omega) (by omega))), b6.2.2.2.1, fun hF => ⟨b6.2.1, hC5.up (k := 4) semW_hW v6 (fun j h => o6 _ _ (Or.inr h) (by omega)) (fun q hq h => absurd h ((by decide : ∀ q ∈ TC, q.2.2 ≠ 4) q hq)) (fun q hq j h => by
      simp only [TC, List.mem_cons, List.not_mem_nil, or_false] at hq
      rcases hq with q1 | q1 | q1 | q1 | q1 | q1 | q1 | q1 | q1
      all_goals
        subst q1
        dsimp only at h ⊢
        exact o6 _ _ (by omega) (by omega)) (fun _ a => o6 _ _ (by omega) (by omega)) (fun z => absurd z (by decide)) (fun _ a => o6 _ _ (by omega) (by omega)) (fun z => absurd z (by decide)) (fun z => absurd rfl z) (fun _ p h hp hh => ?_)⟩⟩
  rw [eS] at hF
  obtain ⟨_, hF2⟩ := orF_none hF
  obtain ⟨_, hF3⟩ := orF_none hF2
  obtain ⟨hF4, hF5⟩ := orF_none hF3
  have q1 := cIn_none hF4
  have q2 := cIn_none hF5
  rw [if_pos q1] at eF
  rw [eF] at eG
  rw [if_pos q2] at eG
  rw [w6, eF, eG, eW]
  generalize eA : oN (tkV c L) T 1 (i + 1) = A at *
  generalize eB : oN (tkV c L) T 0 (i + 2) = B at *
  have hin : (A * 24 + tkV c L (i + 3) ≤ p * 24 + h ∧ p * 24 + h ≤ A * 24 + tkV c L (i + 4)) ↔ (A = p ∧ tkV c L (i + 3) ≤ h ∧ h ≤ tkV c L (i + 4)) := by
    constructor
    · intro z
      have : A = p := by omega
      subst this
      omega
    · rintro ⟨z, z1, z2⟩
      subst z
      omega
  have r6 : wS (wS (wS (wS W 6 (cnt 4) A) 7 (cnt 4) B) 8 (cnt 4) (tkV c L (i + 3))) 9 (cnt 4) (tkV c L (i + 4)) 6 (cnt 4) = A := by
    rw [wS_n (Or.inl (by decide)), wS_n (Or.inl (by decide)), wS_n (Or.inl (by decide)), wS_s]
  have r7 : wS (wS (wS (wS W 6 (cnt 4) A) 7 (cnt 4) B) 8 (cnt 4) (tkV c L (i + 3))) 9 (cnt 4) (tkV c L (i + 4)) 7 (cnt 4) = B := by
    rw [wS_n (Or.inl (by decide)), wS_n (Or.inl (by decide)), wS_s]
  have r8 : wS (wS (wS (wS W 6 (cnt 4) A) 7 (cnt 4) B) 8 (cnt 4) (tkV c L (i + 3))) 9 (cnt 4) (tkV c L (i + 4)) 8 (cnt 4) = tkV c L (i + 3) := by
    rw [wS_n (Or.inl (by decide)), wS_s]
  have r9 : wS (wS (wS (wS W 6 (cnt 4) A) 7 (cnt 4) B) 8 (cnt 4) (tkV c L (i + 3))) 9 (cnt 4) (tkV c L (i + 4)) 9 (cnt 4) = tkV c L (i + 4) := wS_s
  have ro : ∀ r k, 6 ≤ r → r ≤ 9 → k < cnt 4 → wS (wS (wS (wS W 6 (cnt 4) A) 7 (cnt 4) B) 8 (cnt 4) (tkV c L (i + 3))) 9 (cnt 4) (tkV c L (i + 4)) r k = W r k := fun r k _ _ z => by
    rw [wS_n (Or.inr (by omega)), wS_n (Or.inr (by omega)), wS_n (Or.inr (by omega)), wS_n (Or.inr (by omega))]
  generalize wS (wS (wS (wS W 6 (cnt 4) A) 7 (cnt 4) B) 8 (cnt 4) (tkV c L (i + 3))) 9 (cnt 4) (tkV c L (i + 4)) = W2 at *
  have e1 : stY W2 (cnt 4 + 1) p h = (stY W (cnt 4) p h || decide (A = p ∧ tkV c L (i + 3) ≤ h ∧ h ≤ tkV c L (i + 4))) := by
    show (stY W2 (cnt 4) p h || _) = _
    rw [stY_congr ro]
    dsimp only
    rw [r6, r8, r9]
  rw [e1, wAt, r6, r7, r8, r9, wAt_congr (cnt 4) ro]
  by_cases z : A = p ∧ tkV c L (i + 3) ≤ h ∧ h ≤ tkV c L (i + 4)
  · rw [if_pos (hin.mpr z), if_pos z, decide_eq_true z, Bool.or_true, if_pos rfl, e3]
  · rw [if_neg (fun q => z (hin.mp q)), if_neg z, decide_eq_false z, Bool.or_false, hC5.2.2.2.2 p h hp hh]
theorem c_tell5 (hn : 30000 ≤ n) (hw : w = 22 ∨ w = 47) (hB : CBg c L e T none S) (hT : NTw cnt T) (hc1 : cnt 1 ≤ 10) (hc2 : cnt 2 ≤ 6) (hC : CTd w cnt W S) (h2 : i + 2 < e) : Ok (E_X8_tellKnowing n S w (5 : Int32) (nI i)) (CRs c L w cnt T W 5 i S) := by
  unfold E_X8_tellKnowing
  rw [nI_1, show nI i + (2 : Int32) = nI (i + 2) by rw [show (2 : Int32) = nI 2 from rfl, nI_add]]
  obtain ⟨⟨v2, S2⟩, f2, e2, d2, b2⟩ := c_old (n := n) (k := 1) hn hB (by omega : i + 1 < e) (by decide)
  dsimp only at e2 d2 b2
  apply Ok.step (show E_X8_oldName n S (1 : Int32) (nI (i + 1)) = some (v2, S2) from f2)
  obtain ⟨⟨v3, S3⟩, f3, e3, d3, b3⟩ := c_old (n := n) (k := 2) hn b2 h2 (by decide)
  dsimp only at e3 d3 b3
  apply Ok.step (show E_X8_oldName n S2 (2 : Int32) (nI (i + 2)) = some (v3, S3) from f3)
  refine Ok.ifT rfl ?_
  have ha : oN (tkV c L) T 1 (i + 1) < 10 := oN_lt hT hc1 (by decide)
  have hb : oN (tkV c L) T 2 (i + 2) < 6 := oN_lt hT hc2 (by decide)
  have hC3 := (hC.fc hw d2).fc hw d3
  have d13 := (XFc_Cd (w := w) d2).trans (XFc_Cd (w := w) d3)
  have eW : semW (tkK c L) (tkV c L) T 5 (cnt 5) i W = wS (wS W 10 (cnt 5) (oN (tkV c L) T 1 (i + 1))) 11 (cnt 5) (oN (tkV c L) T 2 (i + 2)) := rfl
  have eF : semF (tkK c L) (tkV c L) T 5 i = orF (orF none (cOld (tkV c L) T 1 (i + 1))) (cOld (tkV c L) T 2 (i + 2)) := rfl
  rw [← eF] at b3
  rw [e2, e3]
  generalize oN (tkV c L) T 1 (i + 1) = A at *
  generalize oN (tkV c L) T 2 (i + 2) = B at *
  obtain ⟨S6, f6, l6, o6, v6, w6⟩ := c_addKnown (n := n) (a := A) (b := B) hw (hC3.1 5 (by decide)) ha
  apply Ok.step f6
  have b6 := b3.fr l6 (fun a j h => o6 _ _ (by omega) (by omega))
  refine Ok.ret ⟨d13.trans (add_Cd l6 (fun a j h => o6 _ _ (by omega) (by omega))), b6.2.2.2.1, fun hF => ⟨b6.2.1, hC3.up (k := 5) semW_hW v6 (fun j h => o6 _ _ (Or.inr h) (by omega)) (fun q hq h => absurd h ((by decide : ∀ q ∈ TC, q.2.2 ≠ 5) q hq)) (fun q hq j h => by
      simp only [TC, List.mem_cons, List.not_mem_nil, or_false] at hq
      rcases hq with q1 | q1 | q1 | q1 | q1 | q1 | q1 | q1 | q1
      all_goals
        subst q1
        dsimp only at h ⊢
        exact o6 _ _ (by omega) (by omega)) (fun _ a => o6 _ _ (by omega) (by omega)) (fun z => absurd z (by decide)) (fun z => absurd rfl z) (fun _ p hp => ?_) (fun _ a => o6 _ _ (by omega) (by omega)) (fun z => absurd z (by decide))⟩⟩
  rw [eW]
  have old : ∀ x, fiN (wS (wS W 10 (cnt 5) A) 11 (cnt 5) B) (cnt 5) p x = fiN W (cnt 5) p x := fun x => fiN_congr (fun r k q1 q2 q3 => by rw [wS_n (Or.inr (by omega)), wS_n (Or.inr (by omega))])
  have new : ∀ x, fiN (wS (wS W 10 (cnt 5) A) 11 (cnt 5) B) (cnt 5 + 1) p x = (fiN W (cnt 5) p x || (A == p && B == x)) := fun x => by
    show (fiN _ (cnt 5) p x || _) = _
    rw [old]
    dsimp only
    rw [wS_n (Or.inl (by decide) : (10 : Nat) ≠ 11 ∨ _), wS_s, wS_s]
  by_cases q : p = A
  · subst q
    rw [w6, hC3.2.2.2.1 p hp]
    refine bs_of (by decide) (fun x hx => ?_)
    rw [new, b_or, bt_bs _ _ (by decide), bit_bt (by omega) hx]
    by_cases q3 : x < 6
    · by_cases q4 : x = B
      · simp [q4, hb]
      · have q5 : ¬ B = x := fun z => q4 z.symm
        simp [q3, q4, q5]
    · have q4 : ¬ x = B := by omega
      simp [q3, q4]
  · rw [o6 _ _ (by omega) (Or.inr q), hC3.2.2.2.1 p hp]
    refine bs_congr (fun x _ => ?_)
    have q2 : (A == p) = false := by simp; exact fun z => q z.symm
    rw [new, q2]
    simp
theorem c_tell6 (hn : 30000 ≤ n) (hw : w = 22 ∨ w = 47) (hB : CBg c L e T none S) (hC : CTd w cnt W S) (hm : cnt 6 < 12) (h3 : i + 3 < e) (hk3 : tkK c L (i + 3) = 21) : Ok (E_X8_tellKnowing n S w (6 : Int32) (nI i)) (CRs c L w cnt T W 6 i S) := by
  unfold E_X8_tellKnowing
  rw [nI_1, show nI i + (2 : Int32) = nI (i + 2) by rw [show (2 : Int32) = nI 2 from rfl, nI_add], show nI i + (3 : Int32) = nI (i + 3) by rw [show (3 : Int32) = nI 3 from rfl, nI_add]]
  obtain ⟨⟨v2, S2⟩, f2, e2, d2, b2⟩ := c_old (n := n) (k := 1) hn hB (by omega : i + 1 < e) (by decide)
  dsimp only at e2 d2 b2
  apply Ok.step (show E_X8_oldName n S (1 : Int32) (nI (i + 1)) = some (v2, S2) from f2)
  obtain ⟨⟨v3, S3⟩, f3, e3, d3, b3⟩ := c_old (n := n) (k := 2) hn b2 (by omega : i + 2 < e) (by decide)
  dsimp only at e3 d3 b3
  apply Ok.step (show E_X8_oldName n S2 (2 : Int32) (nI (i + 2)) = some (v3, S3) from f3)
  refine Ok.ifF (by decide) ?_
  obtain ⟨⟨v4, S4⟩, f4, e4, d4, b4⟩ := c_num (n := n) (lo := 0) (hi := 23) b3 h3 hk3 (by decide) (by decide)
  dsimp only at e4 d4 b4
  apply Ok.step (show E_X8_within n S3 (nI (i + 3)) (0 : Int32) (23 : Int32) = some (v4, S4) from f4)
  have hC4 := ((hC.fc hw d2).fc hw d3).fc hw d4
  have d14 := ((XFc_Cd (w := w) d2).trans (XFc_Cd d3)).trans (XFc_Cd (w := w) d4)
  obtain ⟨S6, f6, l6, o6, v6, w6, w7, w8⟩ := c_addMust (n := n) (v := v2) (u := v3) (x := v4) hw (hC4.1 6 (by decide)) hm
  apply Ok.step f6
  have b6 := b4.fr l6 (fun a j h => o6 _ _ (by omega) (by omega))
  have eF : semF (tkK c L) (tkV c L) T 6 i = orF (orF (orF none (cOld (tkV c L) T 1 (i + 1))) (cOld (tkV c L) T 2 (i + 2))) (cIn (tkV c L) 0 23 (i + 3)) := by
    rw [orF_n, orF_assoc]; rfl
  rw [← eF] at b6
  refine Ok.ret ⟨d14.trans (add_Cd l6 (fun a j h => o6 _ _ (by omega) (by omega))), b6.2.2.2.1, fun hF => ⟨b6.2.1, hC4.up (k := 6) semW_hW v6 (fun j h => o6 _ _ (Or.inr h) (by omega)) (fun q hq h => ?_) (fun q hq j h => by
      simp only [TC, List.mem_cons, List.not_mem_nil, or_false] at hq
      rcases hq with q1 | q1 | q1 | q1 | q1 | q1 | q1 | q1 | q1
      all_goals
        subst q1
        dsimp only at h ⊢
        exact o6 _ _ (by omega) (by omega)) (fun _ a => o6 _ _ (by omega) (by omega)) (fun z => absurd z (by decide)) (fun _ a => o6 _ _ (by omega) (by omega)) (fun z => absurd z (by decide)) (fun _ a => o6 _ _ (by omega) (by omega)) (fun z => absurd z (by decide))⟩⟩
  rw [eF] at hF
  have eW : semW (tkK c L) (tkV c L) T 6 (cnt 6) i W = wS (wS (wS W 12 (cnt 6) (oN (tkV c L) T 1 (i + 1))) 13 (cnt 6) (oN (tkV c L) T 2 (i + 2))) 14 (cnt 6) (tkV c L (i + 3)) := rfl
  rw [eW]
  rcases (by decide : ∀ q ∈ TC, q.2.2 = 6 → q = (12, 7, 6) ∨ q = (13, 8, 6) ∨ q = (14, 9, 6)) q hq h with q1 | q1 | q1
  · subst q1
    dsimp only
    rw [w6, e2, wS_n (Or.inl (by decide)), wS_n (Or.inl (by decide)), wS_s]
  · subst q1
    dsimp only
    rw [w7, e3, wS_n (Or.inl (by decide)), wS_s]
  · subst q1
    dsimp only
    rw [w8, e4, if_pos (cIn_none (orF_none hF).2), wS_s]
theorem c_tell7 (hn : 30000 ≤ n) (hw : w = 22 ∨ w = 47) (hB : CBg c L e T none S) (hlen : T.length < 32) (hC : CTd w cnt W S) (hm : cnt 7 < 6) (h3 : i + 3 < e) (hk3 : tkK c L (i + 3) = 21) : Ok ((E_X8_newName n S w (7 : Int32) (nI i + (1 : Int32))).bind fun S23 => (E_X8_oldName n S23 (2 : Int32) (nI i + (2 : Int32))).bind fun v24 => (E_X8_within n v24.2 (nI i + (3 : Int32)) (1 : Int32) (99 : Int32)).bind fun v25 => (E_X10_addAct n v25.2 w v24.1 v25.1).bind fun S27 => some S27) (CRs c L w cnt T W 7 i S) := by
  rw [nI_1, show nI i + (2 : Int32) = nI (i + 2) by rw [show (2 : Int32) = nI 2 from rfl, nI_add], show nI i + (3 : Int32) = nI (i + 3) by rw [show (3 : Int32) = nI 3 from rfl, nI_add]]
  obtain ⟨S2, f2, d2, T', b2, g2, t2⟩ := c_new (n := n) (k := 7) (m := cnt 7) hn hB (by omega : i + 1 < e) (by decide) hw (hC.1 7 (by decide)) (by omega) hlen
  apply Ok.step (show E_X8_newName n S w (7 : Int32) (nI (i + 1)) = some S2 from f2)
  have hC2 := hC.nw hw d2
  have eo := oldN_or (V := tkV c L) (k := 2) (j := i + 2) (by decide) t2
  obtain ⟨⟨v3, S3⟩, f3, e3, d3, b3⟩ := c_old (n := n) (k := 2) hn b2 (by omega : i + 2 < e) (by decide)
  dsimp only at e3 d3 b3
  rw [cOld_eq eo] at b3
  rw [oN_eq eo] at e3
  apply Ok.step (show E_X8_oldName n S2 (2 : Int32) (nI (i + 2)) = some (v3, S3) from f3)
  obtain ⟨⟨v4, S4⟩, f4, e4, d4, b4⟩ := c_num (n := n) (lo := 1) (hi := 99) b3 h3 hk3 (by decide) (by decide)
  dsimp only at e4 d4 b4
  apply Ok.step (show E_X8_within n S3 (nI (i + 3)) (1 : Int32) (99 : Int32) = some (v4, S4) from f4)
  have hC4 := (hC2.fc hw d3).fc hw d4
  have d14 := ((XNw_Cd hw d2).trans (XFc_Cd d3)).trans (XFc_Cd (w := w) d4)
  obtain ⟨S6, f6, l6, o6, v6, w6, w7⟩ := c_addAct (n := n) (v := v3) (u := v4) hw (hC4.1 7 (by decide)) hm
  apply Ok.step f6
  have b6 := b4.fr l6 (fun a j h => o6 _ _ (by omega) (by omega))
  have eF : semF (tkK c L) (tkV c L) T 7 i = orF (orF (cNew (tkV c L) T (i + 1)) (cOld (tkV c L) T 2 (i + 2))) (cIn (tkV c L) 1 99 (i + 3)) := by
    rw [orF_assoc]; rfl
  rw [← eF] at b6
  refine Ok.ret ⟨d14.trans (add_Cd l6 (fun a j h => o6 _ _ (by omega) (by omega))), b6.2.2.2.1, fun hF => ?_⟩
  rw [eF] at hF
  obtain ⟨hF1, hF3⟩ := orF_none hF
  obtain ⟨hF1, hF2⟩ := orF_none hF1
  have eT : T' = semT (tkV c L) T 7 (cnt 7) i := g2 hF1
  rw [← eT]
  refine ⟨b6.2.1, hC4.up (k := 7) semW_hW v6 (fun j h => o6 _ _ (Or.inr h) (by omega)) (fun q hq h => ?_) (fun q hq j h => by
      simp only [TC, List.mem_cons, List.not_mem_nil, or_false] at hq
      rcases hq with q1 | q1 | q1 | q1 | q1 | q1 | q1 | q1 | q1
      all_goals
        subst q1
        dsimp only at h ⊢
        exact o6 _ _ (by omega) (by omega)) (fun _ a => o6 _ _ (by omega) (by omega)) (fun z => absurd z (by decide)) (fun _ a => o6 _ _ (by omega) (by omega)) (fun z => absurd z (by decide)) (fun _ a => o6 _ _ (by omega) (by omega)) (fun z => absurd z (by decide))⟩
  have eW : semW (tkK c L) (tkV c L) T 7 (cnt 7) i W = wS (wS W 15 (cnt 7) (oN (tkV c L) T 2 (i + 2))) 16 (cnt 7) (tkV c L (i + 3)) := rfl
  rw [eW]
  rcases (by decide : ∀ q ∈ TC, q.2.2 = 7 → q = (15, 10, 7) ∨ q = (16, 11, 7)) q hq h with q1 | q1
  · subst q1
    dsimp only
    rw [w6, e3, wS_n (Or.inl (by decide)), wS_s]
  · subst q1
    dsimp only
    rw [w7, e4, if_pos (cIn_none hF3), wS_s]
end CTE
