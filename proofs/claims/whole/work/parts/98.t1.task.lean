/-! ===== the reference is told: tasks ===== -/
section RTT
variable {n L sd : Nat} {c : Nat → Nat} {S S' : ST}
theorem Beg.wr {cnt : Nat → Nat} {M : SM} {y : Nat × Nat} (h : Beg c L sd cnt M y S) (d : Df XWr S S') : Beg c L sd cnt M y S' := h.sm (XWr_Sm d) (h.1.fr (fun j hj => d.2 _ _ (by simp only [XWr, Bool.and_eq_false_iff, Bool.or_eq_false_iff, beq_eq_false_iff_ne]; omega))) h.2.1
/-- a task's names, one by one -/
theorem r_tskL {β : Type} {cnt : Nat → Nat} {M : SM} {y0 yF : Nat × Nat} {sf0 sfF : SF} {u0 : Int32} {sN : Nat} {g : ((Int32 × ST) ⊕ ST) → Option β} {R : β → Prop} (hn : 30000 ≤ n) (hLb : L ≤ 2000) (hT : RTk c L S) (hB : Beg c L sd cnt M y0 S) (hsf : sf0 = none → M.2.2 = none) (hWR : y0.1 = 0 → WR c L sf0 S ∧ SFb sf0 y0.2) (hu : u0 = bI (decide (y0.1 = 0)))
    (hyF : fur (tkK c L) 401 (tk (tkK c L) 20 y0) = yF) (hsF : orF sf0 (tsk (tkK c L) (tkV c L) M.1 401 0 y0.2).1 = sfF) (hsN : (tsk (tkK c L) (tkV c L) M.1 401 0 y0.2).2 = sN)
    (hg1 : ∀ u S', Df XSm S S' → Beg c L sd cnt M yF S' → (yF.1 = 0 → WR c L sfF S' ∧ SFb sfF yF.2 ∧ (sfF = none → u = nI sN ∧ sN < 2 ^ cnt 2)) → Ok (g (.inl (u, S'))) R)
    (hg2 : ∀ S', Df XSm S S' → Beg c L sd cnt M yF S' → yF.1 ≠ 0 → Ok (g (.inr S')) R) :
    Ok ((iter (fun (s5 : Int32 × Int32 × ST) => if s5.2.1 = 0 then some (.inr (.inl (s5.1, s5.2.2))) else (E_X12_known n s5.2.2 (2 : Int32)).bind fun v7 => if (v7.2.1 95 13) ≤ 0 then jn (fun (S9 : ST) => jn (fun (u10 : Int32) => (E_X12_is n S9 (5 : Int32)).bind fun v11 => jn (fun (S12 : ST) => jn (fun (u13 : Int32) => some (.inl (u10, u13, S12))) fun j14 => jn (j14 (0 : Int32)) fun j15 => if v11 = 0 then j15 else if (S12.1 95 13) = 0 then j14 (1 : Int32) else j15) fun j18 => if v11 = 0 then j18 S9 else (E_X12_goesOn n S9 ).bind fun S21 => j18 S21) fun j22 => if v7.1 = (-1 : Int32) then j22 s5.1 else j22 (s5.1 ||| ((1 : Int32) <<< (v7.1 &&& 31)))) fun j24 => if v7.1 = (-1 : Int32) then j24 v7.2 else if ((s5.1 >>> (v7.1 &&& 31)) &&& (1 : Int32)) = (1 : Int32) then (E_X12_wrong n v7.2 (3 : Int32) (s5.2.2.1 95 11)).bind fun S28 => j24 S28 else j24 v7.2 else some (.inr (.inr v7.2))) n ((0 : Int32), u0, S)).bind g) R := by
  have hc2 : cnt 2 ≤ 20 := hB.2.2.2.2.2.2.1 2 (by decide)
  refine bindW (fun d (s : Int32 × Int32 × ST) => ∃ z, Df XSm S s.2.2 ∧ Beg c L sd cnt M z s.2.2 ∧ ((s.2.1 = 0 ∧ d = 0 ∧ z = yF ∧ (z.1 = 0 → WR c L sfF s.2.2 ∧ SFb sfF z.2 ∧ (sfF = none → s.1 = nI sN ∧ sN < 2 ^ cnt 2))) ∨ (s.2.1 = 1 ∧ z.1 = 0 ∧ d = 402 - z.2 ∧ ∃ i sf t, 2 * i ≤ z.2 ∧ fur (tkK c L) (401 - i) (tk (tkK c L) 20 z) = yF ∧ WR c L sf s.2.2 ∧ SFb sf z.2 ∧ (sf = none → M.2.2 = none) ∧ orF sf (tsk (tkK c L) (tkV c L) M.1 (401 - i) t z.2).1 = sfF ∧ (sf = none → s.1 = nI t ∧ t < 2 ^ cnt 2 ∧ (tsk (tkK c L) (tkV c L) M.1 (401 - i) t z.2).2 = sN)))) (if y0.1 = 0 then 402 - y0.2 else 0)
    (Sum.elim (fun e => Df XSm S e.2 ∧ Beg c L sd cnt M yF e.2 ∧ (yF.1 = 0 → WR c L sfF e.2 ∧ SFb sfF yF.2 ∧ (sfF = none → e.1 = nI sN ∧ sN < 2 ^ cnt 2))) (fun S' => Df XSm S S' ∧ Beg c L sd cnt M yF S' ∧ yF.1 ≠ 0)) (by split <;> omega) ?_ ?_ ?_
  · refine ⟨y0, Df.refl _ _, hB, ?_⟩
    by_cases h0 : y0.1 = 0
    · right
      obtain ⟨q1, q2⟩ := hWR h0
      exact ⟨by rw [hu, decide_eq_true h0]; rfl, h0, if_pos h0, 0, sf0, 0, Nat.zero_le _, hyF, q1, q2, hsf, hsF, fun _ => ⟨rfl, Nat.two_pow_pos _, hsN⟩⟩
    · left
      refine ⟨by rw [hu, decide_eq_false h0]; rfl, if_neg h0, ?_, fun z => absurd z h0⟩
      rw [← hyF, tk_f h0, fur_f h0]
  · rintro d ⟨u, v, S1⟩ ⟨z, d1, b1, h⟩
    dsimp only at d1 b1 h ⊢
    rcases h with ⟨rfl, rfl, hz, hE⟩ | ⟨rfl, z0, hd, i, sf, t, hi, hzF, w1, s1, m1, hF1, hS1⟩
    · subst hz
      exact Ok.ifT rfl (Ok.inr ⟨d1, b1, hE⟩)
    refine Ok.ifF (by decide) ?_
    have hT1 := hT.sm d1
    obtain ⟨⟨w, S2⟩, f2, d2, b2, g2⟩ := r_old (n := n) (k := 2) (sf := sf) hn (by decide) hLb hT1 b1 m1 (fun _ => w1) (fun _ => s1)
    dsimp only at d2 b2 g2
    apply Ok.step (show E_X12_known n S1 (2 : Int32) = some (w, S2) from f2)
    dsimp only
    have hT2 := hT1.sm d2
    by_cases c1 : (tk (tkK c L) 20 z).1 = 0
    case neg =>
      have hw1 := b2.2.1.1
      refine Ok.ifF (by rw [b2.1.1]; exact nI_nle (by omega) (by omega)) (Ok.inr ?_)
      rw [fur_f c1] at hzF
      rw [← hzF]
      exact ⟨d1.trans d2, b2, c1⟩
    refine Ok.ifT (by rw [b2.1.1, c1]; decide) ?_
    obtain ⟨w2, s2, gv⟩ := g2 c1
    obtain ⟨a1, a2, a3, a4⟩ := tk_0 c1
    rw [a4] at b2 hzF s2
    dsimp only at s2
    have e11 : S1.1 95 11 = nI z.2 := b1.1.2.1 z0
    rw [e11]
    have e401 : 401 - i = (400 - i) + 1 := by have := b1.2.1.2.1; omega
    rw [e401] at hzF hF1 hS1
    rw [fur] at hzF
    dsimp only at hzF
    have hvz : ∀ j, j < z.2 → tkK c L j ≠ 35 := b1.2.1.2.2
    obtain ⟨U, hU⟩ : ∃ U : Int32, U = if w = -1 then u else u ||| ((1 : Int32) <<< (w &&& 31)) := ⟨_, rfl⟩
    refine jnH1 (fun S9 => ∃ sf2 t2, Df XSm S S9 ∧ Beg c L sd cnt M (0, z.2 + 1) S9 ∧ WR c L sf2 S9 ∧ SFb sf2 (z.2 + 1) ∧ (sf2 = none → M.2.2 = none) ∧ (tkK c L (z.2 + 1) = 23 → orF sf2 (tsk (tkK c L) (tkV c L) M.1 (400 - i) t2 (z.2 + 2)).1 = sfF ∧ (sf2 = none → U = nI t2 ∧ t2 < 2 ^ cnt 2 ∧ (tsk (tkK c L) (tkV c L) M.1 (400 - i) t2 (z.2 + 2)).2 = sN)) ∧ (tkK c L (z.2 + 1) ≠ 23 → sf2 = sfF ∧ (sf2 = none → U = nI sN ∧ sN < 2 ^ cnt 2))) ?_ ?_
    · rintro S9 ⟨sf2, t2, d9, b9, w9, s9, m9, p1, p2⟩
      refine jnH1 (fun u10 => u10 = U) ?_ (fun J hJ => ?_)
      case refine_2 =>
        by_cases e : w = -1
        · exact Ok.ifT e (hJ _ (by rw [hU, if_pos e]))
        · exact Ok.ifF e (hJ _ (by rw [hU, if_neg e]))
      rintro u10 rfl
      have hT9 := hT.sm d9
      have ei := r_is (n := n) (k := 23) hT9 b9.1 b9.2.1 (by decide)
      apply Ok.step (show E_X12_is n S9 (5 : Int32) = _ from ei)
      by_cases c2 : tkK c L (z.2 + 1) = 23
      · rw [decide_eq_true ⟨rfl, c2⟩]
        rw [if_pos ⟨rfl, c2⟩] at hzF
        obtain ⟨S10, f10, d10, y10⟩ := r_goesOn (n := n) hT9 b9.1 b9.2.1
        have b10 := b9.sm (XFl_Sm d10) y10 (by rw [← tk_gy (K := tkK c L) (k := 23) (fun _ => c2)]; exact tk_w b9.2.1 (by decide))
        rw [← tk_gy (K := tkK c L) (k := 23) (fun _ => c2)] at b10 y10
        apply Ok.jnU
        refine Ok.ifF (by decide) ?_
        apply Ok.step f10
        apply Ok.jnU
        apply Ok.jnU
        refine Ok.ifF (by decide) ?_
        have w10 : WR c L sf2 S10 := w9.fr (fun j hj => d10.2 _ _ (by simp only [XFl, Bool.and_eq_false_iff, Bool.or_eq_false_iff, beq_eq_false_iff_ne]; omega))
        by_cases c3 : (tk (tkK c L) 23 (0, z.2 + 1)).1 = 0
        · obtain ⟨_, _, q3, q4⟩ := tk_0 c3
          have q4' : tk (tkK c L) 23 (0, z.2 + 1) = (0, z.2 + 2) := q4
          rw [q4'] at b10 hzF y10
          obtain ⟨r1, r2⟩ := p1 c2
          refine Ok.ifT (by rw [y10.1]; rfl) (Ok.inl ⟨402 - (z.2 + 2), by dsimp only at q3; omega, (0, z.2 + 2), d9.trans (XFl_Sm d10), b10, Or.inr ⟨rfl, rfl, rfl, i + 1, sf2, t2, ?_, ?_, w10, s9.mono (Nat.le_succ _), m9, ?_, ?_⟩⟩)
          · dsimp only; omega
          · rw [show 401 - (i + 1) = 400 - i by omega]; exact hzF
          · rw [show 401 - (i + 1) = 400 - i by omega]; exact r1
          · rw [show 401 - (i + 1) = 400 - i by omega]; exact r2
        · have hw1 := b10.2.1.1
          refine Ok.ifF (fun q => c3 ((nI_eq (b := 0) (by omega) (by decide)).mp (y10.1 ▸ q))) (Ok.inl ⟨0, by omega, _, d9.trans (XFl_Sm d10), b10, Or.inl ⟨rfl, rfl, ?_, fun q => absurd q c3⟩⟩)
          rw [tk_f c3, fur_f c3] at hzF
          exact hzF
      · rw [decide_eq_false (fun q => c2 q.2)]
        rw [if_neg (fun q => c2 q.2)] at hzF
        apply Ok.jnU
        refine Ok.ifT rfl ?_
        apply Ok.jnU
        apply Ok.jnU
        obtain ⟨r1, r2⟩ := p2 c2
        subst r1
        refine Ok.ifT rfl (Ok.inl ⟨0, by omega, (0, z.2 + 1), d9, b9, Or.inl ⟨rfl, rfl, hzF, fun _ => ⟨w9, s9, r2⟩⟩⟩)
    · intro J hJ
      have wrongly : ∀ (RR : (Int32 × Int32 × ST) ⊕ ((Int32 × ST) ⊕ ST) → Prop) (sfx : SF), WR c L sfx S2 → (∀ x, sfx = some x → x.2 < z.2) → (∀ S9, Df XSm S S9 → Beg c L sd cnt M (0, z.2 + 1) S9 → WR c L (orF sfx (some (3, z.2))) S9 → Ok (J S9) RR) → Ok ((E_X12_wrong n S2 (3 : Int32) (nI z.2)).bind fun S28 => J S28) RR := fun RR sfx hx hb hk => by
        obtain ⟨S3, f3, d3, w3⟩ := r_wrong (n := n) (f := 3) (j := z.2) hT2 b2.1 b2.2.1.1 b1.2.1.2.1 hvz (by decide) (by decide) hx (fun x hx => Or.inl (hb x hx)) hLb
        apply Ok.step (show E_X12_wrong n S2 (3 : Int32) (nI z.2) = some S3 from f3)
        exact hk S3 ((d1.trans d2).trans (XWr_Sm d3)) (b2.wr d3) (w3 rfl)
      cases hsfx : sf with
      | some x =>
        rw [hsfx] at w2 hF1 s1 s2
        have hx : some x = sfF := hF1
        have keep : ∀ S9, Df XSm S S9 → Beg c L sd cnt M (0, z.2 + 1) S9 → WR c L (some x) S9 → Ok (J S9) _ := fun S9 d9 b9 w9 => hJ S9 ⟨some x, 0, d9, b9, w9, s2, (fun q => by cases q), fun _ => ⟨hx, fun q => by cases q⟩, fun _ => ⟨hx, fun q => by cases q⟩⟩
        refine Ok.ifC (fun _ => keep S2 (d1.trans d2) b2 w2) (fun _ => Ok.ifC (fun _ => ?_) (fun _ => keep S2 (d1.trans d2) b2 w2))
        exact wrongly _ (some x) w2 s1 keep
      | none =>
        rw [hsfx] at w2 hF1 hS1 s2 gv m1
        obtain ⟨gv1, gv2⟩ := gv rfl
        obtain ⟨u1, u2, u3⟩ := hS1 rfl
        rw [tsk] at hF1 u3
        cases ho : oldN (tkV c L) M.1 2 z.2 with
        | none =>
          rw [ho] at hF1 u3
          have e4 : cOld (tkV c L) M.1 2 z.2 = some (4, z.2) := by unfold cOld; rw [ho]; rfl
          rw [e4] at w2 s2
          have hx : some (4, z.2) = sfF := hF1
          refine Ok.ifT (gv2 ho) (hJ S2 ⟨some (4, z.2), 0, d1.trans d2, b2, w2, s2, (fun q => by cases q), fun _ => ⟨hx, fun q => by cases q⟩, fun _ => ⟨hx, fun q => by cases q⟩⟩)
        | some m =>
          rw [ho] at hF1 u3
          dsimp only at hF1 u3
          obtain ⟨gm, gm2⟩ := gv1 m ho
          have e4 : cOld (tkV c L) M.1 2 z.2 = none := by unfold cOld; rw [ho]; rfl
          rw [e4] at w2 s2
          have hp : 2 ^ cnt 2 ≤ 2 ^ 20 := Nat.pow_le_pow_right (by decide) hc2
          have hpm : 2 ^ m < 2 ^ cnt 2 := Nat.pow_lt_pow_right (by decide) gm2
          have hbt : bt u m = t.testBit m := by rw [u1, bt_nI _ _ (by omega)]
          refine Ok.ifF (by rw [gm]; exact nI_m1 (by omega)) ?_
          rw [gm]
          by_cases cb : t.testBit m = true
          · rw [if_pos cb] at hF1 u3
            have hx : some (3, z.2) = sfF := hF1
            refine Ok.ifT ((shr_1 u (by omega)).mpr (by rw [hbt]; exact cb)) (wrongly _ none w2 (fun x q => by cases q) (fun S9 d9 b9 w9 => hJ S9 ⟨some (3, z.2), 0, d9, b9, w9, ?_, (fun q => by cases q), fun _ => ⟨hx, fun q => by cases q⟩, fun _ => ⟨hx, fun q => by cases q⟩⟩))
            intro x hx2
            rw [← Option.some.inj hx2]; exact Nat.lt_succ_self _
          · rw [if_neg cb] at hF1 u3
            have hor : t ||| 2 ^ m < 2 ^ cnt 2 := Nat.or_lt_two_pow u2 hpm
            have hUn : U = nI (t ||| 2 ^ m) := by
              rw [hU, gm, if_neg (nI_m1 (by omega)), u1, bit_nI (by omega), nI_orN (by omega) (by omega)]
            refine Ok.ifF (fun q => cb (by rw [← hbt]; exact (shr_1 u (by omega)).mp q)) (hJ S2 ⟨none, t ||| 2 ^ m, d1.trans d2, b2, w2, s2, m1, fun q => ?_, fun q => ?_⟩)
            · rw [if_pos q] at hF1 u3
              exact ⟨hF1, fun _ => ⟨hUn, hor, u3⟩⟩
            · rw [if_neg q] at hF1 u3
              exact ⟨hF1, fun _ => by rw [← u3]; exact ⟨hUn, hor⟩⟩
  · rintro e hE
    cases e with
    | inl e => exact hg1 e.1 e.2 hE.1 hE.2.1 hE.2.2
    | inr e => exact hg2 e hE.1 hE.2.1 hE.2.2
theorem r_tellTask {Y : SY} {M : SM} (hn : 30000 ≤ n) (hLb : L ≤ 2000) (hT : RTk c L S) (hsd : sd < 2) (h : RRt c L sd Y M S) (h0 : Y.1.1 = 0) (hk : tkK c L Y.1.2 = 8) (hm : Y.2.1 8 ≠ 4) : Ok (E_X12_tellTask n S) (fun S' => D2 (XTs sd 8 (Y.2.1 8) (nmN Y.2.1)) YNo S S' ∧ RRt c L sd (syT (tkK c L) (tkV c L) Y) (seT (tkK c L) (tkV c L) Y.2.1 Y.1.2 M) S') := by
  obtain ⟨hy0, hwY, h19, hd⟩ := h
  obtain ⟨hcm, hcr, h20, hlw, hwr, hsb, htb⟩ := hd h0
  have h : RRt c L sd Y M S := ⟨hy0, hwY, h19, hd⟩
  have hm4 : Y.2.1 8 ≤ 4 := hcm 8 (by decide)
  unfold E_X12_tellTask
  obtain ⟨S1, f1, d1, y1⟩ := r_goesOn (n := n) hT hy0 hwY
  apply Ok.step f1
  rw [← tk_gy (K := tkK c L) (k := 8) (fun _ => hk)] at y1
  have eb : begY (tkK c L) 8 (Y.2.1 8) Y.1 = tk (tkK c L) 8 Y.1 := if_neg hm
  rw [← eb] at y1
  have b0 : Beg c L sd Y.2.1 M Y.1 S := ⟨hy0, hwY, h19, h20, nmN_le hcm, hcr.1, fun k hk => Nat.le_trans (hcm k hk) (cmx_le hk), fun hM => by
    obtain ⟨g1, g2, g3, g4⟩ := htb hM
    exact ⟨g1, g2, g3⟩⟩
  have b1 := b0.sm (XFl_Sm d1) y1 (begY_w hwY (by omega))
  have hT1 := hT.fl d1
  have wr1 : WR c L M.2.2 S1 := hwr.fr (fun j hj => d1.2 _ _ (by simp only [XFl, Bool.and_eq_false_iff, Bool.or_eq_false_iff, beq_eq_false_iff_ne]; omega))
  have sb1 := hsb.mono (begY_le (K := tkK c L) (k := 8) (m := Y.2.1 8) Y.1)
  obtain ⟨⟨w2, S2⟩, f2, d2, b2, ⟨t, t1, t2, t3⟩, g2⟩ := r_new (n := n) (sf := M.2.2) hn hLb hT1 b1 (fun z => z) (fun _ => wr1) (fun _ => sb1)
  dsimp only at d2 b2 t2 g2
  subst t2
  apply Ok.step f2
  have hT2 := hT1.sm d2
  have hwb := b2.2.1.1
  obtain ⟨y0, ey0⟩ : ∃ y0, y0 = tk (tkK c L) 20 (begY (tkK c L) 8 (Y.2.1 8) Y.1) := ⟨_, rfl⟩
  obtain ⟨yF, eyF⟩ : ∃ yF, yF = fur (tkK c L) 401 (tk (tkK c L) 20 y0) := ⟨_, rfl⟩
  have etY : tY (tkK c L) (tkV c L) 8 (Y.2.1 8) Y.1 = tk (tkK c L) 22 yF := by rw [eyF, ey0]; rfl
  rw [← ey0] at b2 g2 hwb
  obtain ⟨sf0, esf0⟩ : ∃ sf0, sf0 = orF M.2.2 (cNew (tkV c L) M.1 (begY (tkK c L) 8 (Y.2.1 8) Y.1).2) := ⟨_, rfl⟩
  rw [← esf0] at g2
  refine jnH1 (fun u4 => u4 = bI (decide (y0.1 = 0))) ?_ (fun J hJ => ?_)
  case refine_2 =>
    dsimp only
    rw [b2.1.1]
    by_cases c0 : y0.1 = 0
    · exact Ok.ifT (by rw [c0]; rfl) (hJ _ (by rw [decide_eq_true c0]; rfl))
    · exact Ok.ifF (fun q => c0 ((nI_eq (b := 0) (by omega) (by decide)).mp q)) (hJ _ (by rw [decide_eq_false c0]; rfl))
  intro u4 hu4
  dsimp only
  have hd12 : Df XSm S S2 := (XFl_Sm d1).trans d2
  have e107 : ∀ {S3 : ST}, Df XSm S2 S3 → S3.1 107 sd = nI (Y.2.1 8) := fun {S3} d3 => by
    rw [d3.2 _ _ rfl, hd12.2 _ _ rfl]; exact hcr.2.1
  refine r_tskL (sd := sd) (cnt := Y.2.1) (M := M) (y0 := y0) (sf0 := sf0) hn hLb hT2 b2 (fun z => (orF_none (esf0 ▸ z)).1) g2 hu4 eyF.symm rfl rfl ?_ ?_
  · intro u S3 d3 b3 g3
    apply Ok.elL
    dsimp only
    have hT3 := hT2.sm d3
    obtain ⟨S4, f4, d4, y4⟩ := r_must (n := n) (k := 22) hT3 b3.1 b3.2.1 (by decide)
    apply Ok.step (show E_X12_must n S3 (4 : Int32) = some S4 from f4)
    have hw4 := tk_w (k := 22) b3.2.1 (by decide)
    rw [← etY] at y4 hw4
    have hT4 := hT3.fl d4
    have d34 : Df XSm S S4 := (hd12.trans d3).trans (XFl_Sm d4)
    by_cases z : (tY (tkK c L) (tkV c L) 8 (Y.2.1 8) Y.1).1 = 0
    case neg =>
      have hw41 := hw4.1
      refine Ok.ifF (by rw [y4.1]; exact nI_nle (by omega) (by omega)) (Ok.ret ⟨D2.sm d34, h.finG h0 hk (by decide) hsd (D2.sm d34) y4 (fun q => absurd q z)⟩)
    refine Ok.ifT (by rw [y4.1, z]; decide) ?_
    obtain ⟨s1, s2, s3, s4⟩ := beg_0 hwY (by decide) z
    obtain ⟨z1, z2, z3, z4⟩ := tk_0 (etY ▸ z)
    have y00 : y0.1 = 0 := by
      rcases Nat.eq_zero_or_pos y0.1 with q | q
      · exact q
      · rw [eyF, tk_f (by omega), fur_f (by omega)] at z1; exact z1
    rw [ey0, s2] at y00
    obtain ⟨a1, a2, a3, a4⟩ := tk_0 y00
    have ey02 : y0 = (0, Y.1.2 + 2) := by rw [ey0, s2]; exact a4
    have et := t3 (by rw [s2])
    rw [s2] at et
    subst et
    have e19 : ∀ {S5 : ST}, S5.1 95 19 = S4.1 95 19 → S5.1 95 19 = nI sd := fun {S5} q => by rw [q, d34.2 _ _ rfl]; exact h19
    have e19' := e19 (S5 := S4) rfl
    rw [e19']
    have q4 : S4.1 107 sd = nI (Y.2.1 8) := e107 (d3.trans (XFl_Sm d4))
    apply Ok.step (rd_nI (by omega) (by decide))
    rw [q4]
    obtain ⟨S5, f5, d5, n5, _⟩ := r_notes (n := n) (j := Y.1.2 + 1) (s := 3) (w := nI (Y.2.1 8)) (nn := nmN Y.2.1) hT4 y4 hw4.1 t1 (by rw [(d3.trans (XFl_Sm d4)).2 _ _ rfl]; exact b2.2.2.2.1) (fun _ => by
      refine ⟨nmN_lt hcm (k := 8) rfl s1, ?_, a2⟩
      have := b1.2.1.2.2
      rw [s2] at this
      exact this)
    apply Ok.step (show E_X12_notes n S4 (nI (Y.1.2 + 1)) (3 : Int32) (nI (Y.2.1 8)) = some S5 from f5)
    obtain ⟨k1, k2, k3, k4, k5⟩ := n5 z
    have o5 : ∀ a j, a ≠ 104 → a ≠ 105 → (a ≠ 95 ∨ j ≠ 20) → S5.1 a j = S4.1 a j := fun a j h1 h2 h3 => d5.2 _ _ (by simp only [XNo, Bool.or_eq_false_iff, Bool.and_eq_false_iff, beq_eq_false_iff_ne]; omega)
    have e195 : S5.1 95 19 = nI sd := e19 (o5 _ _ (by omega) (by omega) (by omega))
    rw [e195]
    apply Ok.step (rd_nI (by omega) (by decide))
    rw [o5 107 _ (by omega) (by omega) (by omega), q4, show (4 : Int32) * nI sd + nI (Y.2.1 8) = nI (4 * sd + Y.2.1 8) by rw [show (4 : Int32) = nI 4 from rfl, nI_mulN, nI_add]]
    apply Ok.step (wr_nI (by omega) (by decide))
    rw [upI_at, if_neg (by omega), e195]
    apply Ok.step (rd_nI (by omega) (by decide))
    rw [upI_at, if_neg (by omega), o5 107 _ (by omega) (by omega) (by omega), q4]
    apply Ok.step (wr_nI (by omega) (by decide))
    generalize eS6 : upI (upI S5 124 (4 * sd + Y.2.1 8) u) 107 sd (nI (Y.2.1 8) + 1) = S6
    have x1 : XTs sd 8 (Y.2.1 8) (nmN Y.2.1) 124 (4 * sd + Y.2.1 8) = true := xts_row (a := 124) (by decide) (by decide) rfl rfl (by omega)
    have x2 : XTs sd 8 (Y.2.1 8) (nmN Y.2.1) 107 sd = true := by simp [XTs, cA, cJ]
    have dB : D2 (XTs sd 8 (Y.2.1 8) (nmN Y.2.1)) YNo S S6 := by rw [← eS6]; exact (((D2.sm d34).trans (D2.no rfl d5)).up x1).up x2
    have o6 : ∀ a j, a ≠ 124 → a ≠ 107 → S6.1 a j = S5.1 a j := fun a j h1 h2 => by rw [← eS6, upI_at, if_neg (by omega), upI_at, if_neg (by omega)]
    have l6 : S6.2 = S5.2 := by rw [← eS6]; rfl
    have y6 : RY c L (tY (tkK c L) (tkV c L) 8 (Y.2.1 8) Y.1) S6 := y4.fr (fun j hj => by rw [o6 _ _ (by omega) (by omega), o5 _ _ (by omega) (by omega) (by omega)])
    have eF : semF (tkK c L) (tkV c L) M.1 8 Y.1.2 = orF (cNew (tkV c L) M.1 (Y.1.2 + 1)) (tsk (tkK c L) (tkV c L) M.1 401 0 (Y.1.2 + 2)).1 := rfl
    obtain ⟨gw, gs, gu⟩ := g3 z1
    have esf : orF sf0 (tsk (tkK c L) (tkV c L) M.1 401 0 y0.2).1 = orF M.2.2 (semF (tkK c L) (tkV c L) M.1 8 Y.1.2) := by
      rw [eF, esf0, s2, ey02, orF_assoc]
    rw [esf] at gw gs gu
    refine Ok.ret ⟨dB, h.finG h0 hk (by decide) hsd dB y6 (fun _ => ⟨?_, fun _ => ⟨?_, ?_, ?_, ?_, fun i hi => ?_⟩, fun hn => (by cases hn), ?_, ?_, fun hM hF q hq hq5 => ?_⟩)⟩
    · rw [← eS6]
      show (upI _ _ _ _).1 107 sd = _
      rw [upI_at, if_pos ⟨rfl, rfl⟩, nI_1]
    · rw [o6 _ _ (by omega) (by omega)]; exact k1
    · rw [l6]; exact k2
    · rw [o6 _ _ (by omega) (by omega)]; exact k3
    · rw [o6 _ _ (by omega) (by omega)]; exact k4
    · rw [l6, k5 i hi, d4.1, d3.1, hd12.1]
    · exact gw.fr (fun j hj => by rw [o6 _ _ (by omega) (by omega), o5 _ _ (by omega) (by omega) (by omega)]; exact d4.2 _ _ (by simp only [XFl, Bool.and_eq_false_iff, Bool.or_eq_false_iff, beq_eq_false_iff_ne]; omega))
    · refine gs.mono ?_
      rw [etY]
      exact tk_le _
    · have hq2 : ∀ q ∈ TW, q.2.2.2 = 8 → q = (17, 124, 4, 8) := by decide
      have e := hq2 q hq hq5
      subst e
      dsimp only
      have gu1 := (gu (by rw [hM, hF]; rfl)).1
      rw [← eS6, upI_at, if_neg (by omega), upI_at, if_pos ⟨rfl, rfl⟩, gu1, ey02]
      show nI _ = nI (wS M.2.1 17 (Y.2.1 8) (tsk (tkK c L) (tkV c L) M.1 401 0 (Y.1.2 + 2)).2 17 (Y.2.1 8))
      rw [wS_s]
  · intro S3 d3 b3 h3
    apply Ok.elR
    have e : tY (tkK c L) (tkV c L) 8 (Y.2.1 8) Y.1 = yF := by rw [etY, tk_f h3]
    have dA := D2.sm (sd := sd) (k := 8) (m := Y.2.1 8) (nn := nmN Y.2.1) (hd12.trans d3)
    exact Ok.ret ⟨dA, h.finG h0 hk (by decide) hsd dA (by rw [e]; exact b3.1) (fun q => absurd q (by rw [e]; exact h3))⟩
theorem r_tell8 {Y : SY} {M : SM} (hn : 30000 ≤ n) (hLb : L ≤ 2000) (hT : RTk c L S) (hsd : sd < 2) (h : RRt c L sd Y M S) (h0 : Y.1.1 = 0) (hk : tkK c L Y.1.2 = 8) :
    Ok ((rd (S.1 107) 2 (S.1 95 19)).bind fun v82 => jn (fun (S83 : ST) => if (S83.1 95 13) = 0 then (E_X12_tellTask n S83 ).bind fun S86 => some S86 else some S83) fun j87 => if v82 = (4 : Int32) then (E_X12_fail n S (2 : Int32)).bind fun S90 => j87 S90 else j87 S) (fun S' => D2 (XTs sd 8 (Y.2.1 8) (nmN Y.2.1)) YNo S S' ∧ RRt c L sd (syT (tkK c L) (tkV c L) Y) (seT (tkK c L) (tkV c L) Y.2.1 Y.1.2 M) S') := by
  obtain ⟨hy0, hwY, h19, hd⟩ := h
  obtain ⟨hcm, hcr, h20, hlw, hwr, hsb, htb⟩ := hd h0
  have h : RRt c L sd Y M S := ⟨hy0, hwY, h19, hd⟩
  have hm4 : Y.2.1 8 ≤ 4 := hcm 8 (by decide)
  rw [h19]
  apply Ok.step (rd_nI hsd (by decide))
  rw [hcr.2.1]
  apply Ok.jnU
  by_cases c1 : Y.2.1 8 = 4
  · refine Ok.ifT (by rw [c1]; rfl) ?_
    obtain ⟨S1, f1, d1, y1, _⟩ := r_fail (n := n) (f := 2) hT hy0 hwY
    rw [if_pos h0] at y1
    apply Ok.step (show E_X12_fail n S (2 : Int32) = some S1 from f1)
    refine Ok.ifF (by rw [y1.1]; exact (by decide : ¬ nI 2 = (0 : Int32))) ?_
    have e : tY (tkK c L) (tkV c L) 8 (Y.2.1 8) Y.1 = (2, Y.1.2) := tY_full c1
    exact Ok.ret ⟨D2.fl d1, h.finG h0 hk (by decide) hsd (D2.fl d1) (by rw [e]; exact y1) (fun q => by rw [e] at q; cases q)⟩
  · refine Ok.ifF (fun q => c1 ((nI_eq (b := 4) (by omega) (by decide)).mp q)) (Ok.ifT (by rw [hy0.1, h0]; rfl) ?_)
    obtain ⟨S1, f1, hR⟩ := r_tellTask (n := n) hn hLb hT hsd h h0 hk c1
    apply Ok.step f1
    exact Ok.ret hR
end RTT
