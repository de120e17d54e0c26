/-! ===== the law's forty-two questions ===== -/
def LI (L : Nat) (xs : Nat → Int32) (M : AM) : Prop := ∃ K R S tw en sd W V P N H, M = mkM K R S ∧ LyP (K_s L) K R tw en ∧ IV W V tw en sd P N H S ∧ GI S ∧ (S.2 161 = fun _ => 0) ∧ ∀ a j, a < 8 → S.1 a j = (S_s xs).1 a j
def RdOk (L : Nat) (xs : Nat → Int32) (M : AM) : Prop := M.1[0]? = some (.inr (0, L)) ∧ M.2.1 0 = xs
section LAW
variable {L n i : Nat} {xs : Nat → Int32} {α β : Type} {Q : β → Prop} {K : AK} {R : Nat → Nat → Option Nat} {S S2 : ST} {tw en sd : Nat} {W : VW} {V : VL} {P : PL} {N : Nat} {H : HL}
theorem RdOk.mono {M M' : AM} (h : RdOk L xs M) (m : Mono M M') : RdOk L xs M' := ⟨(m.2.2 0 (by decide)).1.trans h.1, (m.2.2 0 (by decide)).2.trans h.2⟩
theorem RdOk.of (hLy : LyP (K_s L) K R tw en) (hlo : ∀ a j, a < 8 → S.1 a j = (S_s xs).1 a j) : RdOk L xs (mkM K R S) := by
  refine ⟨?_, funext fun j => (hlo 0 j (by decide)).trans (Sc_s j)⟩
  show K[0]? = _
  rcases hLy.2.2 with ⟨_, e⟩ | ⟨_, e⟩
  · rw [e]; rfl
  · rw [e]; rfl
theorem x_rd {M : AM} {k : Nat} {kx : Int32} {g : Int32 → Option β} (hM : RdOk L xs M) (hkx : kx = nI k) (hk : k < 7) (hi : i + 7 ≤ L) (hL : L < 2 ^ 31) (h : Ok (g (xs (i + k))) Q) : Ok ((rdI M 0 (nI i + kx)).bind g) Q := by
  have e : nI i + kx = nI (i + k) := by rw [hkx, nI_add]
  refine Ok.step (x := xs (i + k)) ?_ h
  unfold rdI
  rw [e, if_pos (y_rdK hM.1 rfl (show i + k < L by omega) hL), nI_clamp (by omega), hM.2]
theorem x_c {M : AM} {ci t : Nat} {u : Option α} {x : α} {g : α → Option β} (h : M.1[t]? = some (.inl ci)) (h8 : 8 ≤ t) (e : u = some x) (k : Ok (g x) Q) : Ok ((rcv ci M t u).bind g) Q := by
  unfold rcv
  rw [if_pos ⟨h, h8⟩]
  exact Ok.step e k
theorem x_jb {A : Int32 → Option β} {v : Int32} (k : Ok (A (bI (decide (v ≠ 0)))) Q) : Ok (jn A fun j => if v = 0 then j 0 else j 1) Q := by
  show Ok (if v = 0 then A 0 else A 1) Q
  by_cases c : v = 0
  · rw [if_pos c]
    rw [decide_eq_false (fun z => z c)] at k; exact k
  · rw [if_neg c]
    rw [decide_eq_true c] at k; exact k
theorem nI_tN (b : Bool) : nI b.toNat = bI b := by cases b <;> rfl
theorem li_q {K' : AK} {R' : Nat → Nat → Option Nat} {tw' en' sd' : Nat} {W' : VW} {V' : VL} {P' : PL} {N' : Nat} {H' : HL} (hG : GI S) (hz : S.2 161 = fun _ => 0) (hlo : ∀ a j, a < 8 → S.1 a j = (S_s xs).1 a j) (hLy : LyP (K_s L) K' R' tw' en') (hI : IV W' V' tw' en' sd' P' N' H' S2) (d : Df XQA S S2) : LI L xs (mkM K' R' S2) := by
  have e : ∀ a j, a < 8 → S2.1 a j = S.1 a j := fun a j h => d.2 a j (by
    simp only [XQA, Bool.and_eq_false_iff, decide_eq_false_iff_not]
    exact .inl (by omega))
  refine ⟨K', R', S2, tw', en', sd', W', V', P', N', H', rfl, hLy, hI, ?_, by rw [d.1]; exact hz, fun a j h => (e a j h).trans (hlo a j h)⟩
  obtain ⟨g1, g2, g3, ⟨T, t0, t1, t2, t3⟩, g5⟩ := hG
  refine ⟨fun k hk => by rw [e _ _ (by decide), e _ _ (by decide), e _ _ (by decide)]; exact g1 k hk, by unfold KWc; rw [d.1]; exact g2, by unfold KWr; rw [d.1]; exact g3, ⟨T, t0, (d.2 8 1 rfl).trans t1, (d.2 95 2 rfl).trans t2, fun k hk => ?_⟩, (d.2 8 2 rfl).trans (g5.trans (d.2 95 17 rfl).symm)⟩
  have e9 : S2.1 9 k = S.1 9 k := d.2 9 k rfl
  have e96 : S2.1 96 k = S.1 96 k := d.2 96 k rfl
  rw [e9, e96]; exact t3 k hk
theorem li_t {K' : AK} {R' : Nat → Nat → Option Nat} {tw' en' sd' : Nat} {W' : VW} {V' : VL} {P' : PL} {N' : Nat} {H' : HL} (hG : GI S) (hz : S.2 161 = fun _ => 0) (hlo : ∀ a j, a < 8 → S.1 a j = (S_s xs).1 a j) (hLy : LyP (K_s L) K' R' tw' en') (hI : IV W' V' tw' en' sd' P' N' H' S2) (hT : TI S2) (d : Df XTp S S2) : LI L xs (mkM K' R' S2) := by
  have e : ∀ a j, a < 8 → S2.1 a j = S.1 a j := fun a j h => d.2 a j (by
    simp only [XTp, XTc, XTr, Bool.or_eq_false_iff, Bool.and_eq_false_iff, beq_eq_false_iff_ne]
    omega)
  refine ⟨K', R', S2, tw', en', sd', W', V', P', N', H', rfl, hLy, hI, ?_, by rw [d.1]; exact hz, fun a j h => (e a j h).trans (hlo a j h)⟩
  obtain ⟨g1, g2, g3, _, g5⟩ := hG
  exact ⟨fun k hk => by rw [e _ _ (by decide), e _ _ (by decide), e _ _ (by decide)]; exact g1 k hk, by unfold KWc; rw [d.1]; exact g2, by unfold KWr; rw [d.1]; exact g3, hT, (d.2 8 2 rfl).trans (g5.trans (d.2 95 17 rfl).symm)⟩
abbrev ZL : Type := (Int32 × AM) ⊕ (AM ⊕ (Int32 × AM))
theorem cs_0 {M : AM} {j12 : AM → Option ZL} {Q : ZL → Prop} (hn : 30000 ≤ n) (hi : i + 7 ≤ L) (hL31 : L < 2 ^ 31) (hM : LI L xs M) (hj : ∀ M, LI L xs M → Ok (j12 M) Q) : Ok ((rdI M 0 (nI i + (1 : Int32))).bind fun v14 => (rdI M 0 (nI i + (2 : Int32))).bind fun v15 => (rdI M 0 (nI i + (3 : Int32))).bind fun v16 => (rdI M 0 (nI i + (4 : Int32))).bind fun v17 => (rdI M 0 (nI i + (5 : Int32))).bind fun v18 => (rcv 11 M 8 (F_X11_feed n M 8 v14 v15 v16 v17 v18)).bind fun v19 => (rdI v19.2 0 (nI i + (1 : Int32))).bind fun v20 => (rdI v19.2 0 (nI i + (2 : Int32))).bind fun v21 => (rdI v19.2 0 (nI i + (3 : Int32))).bind fun v22 => (rdI v19.2 0 (nI i + (4 : Int32))).bind fun v23 => (rdI v19.2 0 (nI i + (5 : Int32))).bind fun v24 => (rcv 12 v19.2 95 (F_X12_feed n v19.2 95 v20 v21 v22 v23 v24)).bind fun v25 => if v19.1 = v25.1 then j12 v25.2 else some (.inr (.inr ((0 : Int32), v25.2)))) Q := by
  obtain ⟨K, R, S, tw, en, sd, W, V, P, N, H, rfl, hLy, hI, hG, hz, hlo⟩ := hM
  have hL := hLy.1
  have rd0 := RdOk.of hLy hlo
  obtain ⟨v, S1, S2, e1, e2, hI2, hT2, d⟩ := q_feed hI hn hG.2.2.2.1 (xs (i + 1)) (xs (i + 2)) (xs (i + 3)) (xs (i + 4)) (xs (i + 5))
  have f1 := E_X11_feed_ok hn hL e1
  have f2 := E_X12_feed_ok hn hL e2
  have rd1 := rd0.mono (C_X11_feed f1).1
  refine x_rd (k := 1) rd0 rfl (by decide) hi hL31 ?_
  refine x_rd (k := 2) rd0 rfl (by decide) hi hL31 ?_
  refine x_rd (k := 3) rd0 rfl (by decide) hi hL31 ?_
  refine x_rd (k := 4) rd0 rfl (by decide) hi hL31 ?_
  refine x_rd (k := 5) rd0 rfl (by decide) hi hL31 ?_
  refine x_c (kd_8 hL) (Nat.le_refl _) f1 ?_
  refine x_rd (k := 1) rd1 rfl (by decide) hi hL31 ?_
  refine x_rd (k := 2) rd1 rfl (by decide) hi hL31 ?_
  refine x_rd (k := 3) rd1 rfl (by decide) hi hL31 ?_
  refine x_rd (k := 4) rd1 rfl (by decide) hi hL31 ?_
  refine x_rd (k := 5) rd1 rfl (by decide) hi hL31 ?_
  refine x_c (kd_95 hL) (by decide) f2 ?_
  refine Ok.ifT rfl (hj _ ?_)
  exact li_t hG hz hlo hLy hI2 hT2 d
theorem cs_1 {M : AM} {j12 : AM → Option ZL} {Q : ZL → Prop} (hn : 30000 ≤ n) (hi : i + 7 ≤ L) (hL31 : L < 2 ^ 31) (hM : LI L xs M) (hj : ∀ M, LI L xs M → Ok (j12 M) Q) : Ok ((rdI M 0 (nI i + (1 : Int32))).bind fun v28 => (rcv 11 M 8 (F_X11_back n M 8 v28)).bind fun v29 => (rdI v29.2 0 (nI i + (1 : Int32))).bind fun v30 => (rcv 12 v29.2 95 (F_X12_back n v29.2 95 v30)).bind fun v31 => if v29.1 = v31.1 then j12 v31.2 else some (.inr (.inr ((0 : Int32), v31.2)))) Q := by
  obtain ⟨K, R, S, tw, en, sd, W, V, P, N, H, rfl, hLy, hI, hG, hz, hlo⟩ := hM
  have hL := hLy.1
  have rd0 := RdOk.of hLy hlo
  obtain ⟨v, S1, S2, e1, e2, hI2, hT2, d⟩ := q_back hI hG.2.2.2.1 (xs (i + 1))
  have f1 := E_X11_back_ok hn hL e1
  have f2 := E_X12_back_ok hn hL e2
  have rd1 := rd0.mono (C_X11_back f1).1
  refine x_rd (k := 1) rd0 rfl (by decide) hi hL31 ?_
  refine x_c (kd_8 hL) (Nat.le_refl _) f1 ?_
  refine x_rd (k := 1) rd1 rfl (by decide) hi hL31 ?_
  refine x_c (kd_95 hL) (by decide) f2 ?_
  refine Ok.ifT rfl (hj _ ?_)
  exact li_t hG hz hlo hLy hI2 hT2 d
theorem cs_2 {M : AM} {j12 : AM → Option ZL} {Q : ZL → Prop} (hn : 30000 ≤ n) (hi : i + 7 ≤ L) (hL31 : L < 2 ^ 31) (hM : LI L xs M) (hj : ∀ M, LI L xs M → Ok (j12 M) Q) : Ok ((rcv 11 M 8 (F_X11_read n M 8)).bind fun v34 => (rcv 12 v34.2 95 (F_X12_read n v34.2 95)).bind fun v35 => if v34.1 = v35.1 then j12 v35.2 else some (.inr (.inr ((0 : Int32), v35.2)))) Q := by
  obtain ⟨K, R, S, tw, en, sd, W, V, P, N, H, rfl, hLy, hI, hG, hz, hlo⟩ := hM
  have hL := hLy.1
  have rd0 := RdOk.of hLy hlo
  obtain ⟨W', V', tw', sd', P', N', H', R', v, S1, S2, f1, e2, hL', hI2, hG2, hLy', el, ez⟩ := q_read hI hn hLy hG
  have f2 := E_X12_read_ok hn hL' e2
  refine x_c (kd_8 hL) (Nat.le_refl _) f1 ?_
  refine x_c (kd_95 hL') (by decide) f2 ?_
  refine Ok.ifT rfl (hj _ ?_)
  exact ⟨K, R', S2, tw', en, sd', W', V', P', N', H', rfl, hLy', hI2, hG2, ez.trans hz, fun a j h => (el a j h).trans (hlo a j h)⟩
theorem cs_3 {M : AM} {j12 : AM → Option ZL} {Q : ZL → Prop} (hn : 30000 ≤ n) (hi : i + 7 ≤ L) (hL31 : L < 2 ^ 31) (hM : LI L xs M) (hj : ∀ M, LI L xs M → Ok (j12 M) Q) : Ok ((rcv 11 M 8 (F_X11_place n M 8)).bind fun v38 => (rcv 12 M 95 (F_X12_place n M 95)).bind fun v39 => if v38 = v39 then j12 M else some (.inr (.inr ((0 : Int32), M)))) Q := by
  obtain ⟨K, R, S, tw, en, sd, W, V, P, N, H, rfl, hLy, hI, hG, hz, hlo⟩ := hM
  have hL := hLy.1
  have rd0 := RdOk.of hLy hlo
  obtain ⟨v, e1, e2⟩ := q_place (n := n) (tw := tw) hG.2.2.2.2
  have f1 := E_X11_place_ok hn hL e1
  have f2 := E_X12_place_ok hn hL e2
  refine x_c (kd_8 hL) (Nat.le_refl _) f1 ?_
  refine x_c (kd_95 hL) (by decide) f2 ?_
  refine Ok.ifT rfl (hj _ ?_)
  exact ⟨K, R, S, tw, en, sd, W, V, P, N, H, rfl, hLy, hI, hG, hz, hlo⟩
theorem cs_4 {M : AM} {j12 : AM → Option ZL} {Q : ZL → Prop} (hn : 30000 ≤ n) (hi : i + 7 ≤ L) (hL31 : L < 2 ^ 31) (hM : LI L xs M) (hj : ∀ M, LI L xs M → Ok (j12 M) Q) : Ok ((rdI M 0 (nI i + (1 : Int32))).bind fun v42 => (rdI M 0 (nI i + (2 : Int32))).bind fun v43 => (rcv 11 M 8 (F_X11_age n M 8 v42 v43)).bind fun v44 => (rdI M 0 (nI i + (1 : Int32))).bind fun v45 => (rdI M 0 (nI i + (2 : Int32))).bind fun v46 => (rcv 12 M 95 (F_X12_age n M 95 v45 v46)).bind fun v47 => if v44 = v47 then j12 M else some (.inr (.inr ((0 : Int32), M)))) Q := by
  obtain ⟨K, R, S, tw, en, sd, W, V, P, N, H, rfl, hLy, hI, hG, hz, hlo⟩ := hM
  have hL := hLy.1
  have rd0 := RdOk.of hLy hlo
  obtain ⟨v, e1, e2⟩ := q_age hI (xs (i + 1)) (xs (i + 2))
  have f1 := E_X11_age_ok hn hL e1
  have f2 := E_X12_age_ok hn hL e2
  refine x_rd (k := 1) rd0 rfl (by decide) hi hL31 ?_
  refine x_rd (k := 2) rd0 rfl (by decide) hi hL31 ?_
  refine x_c (kd_8 hL) (Nat.le_refl _) f1 ?_
  refine x_rd (k := 1) rd0 rfl (by decide) hi hL31 ?_
  refine x_rd (k := 2) rd0 rfl (by decide) hi hL31 ?_
  refine x_c (kd_95 hL) (by decide) f2 ?_
  refine Ok.ifT rfl (hj _ ?_)
  exact ⟨K, R, S, tw, en, sd, W, V, P, N, H, rfl, hLy, hI, hG, hz, hlo⟩
theorem cs_5 {M : AM} {j12 : AM → Option ZL} {Q : ZL → Prop} (hn : 30000 ≤ n) (hi : i + 7 ≤ L) (hL31 : L < 2 ^ 31) (hM : LI L xs M) (hj : ∀ M, LI L xs M → Ok (j12 M) Q) : Ok ((rdI M 0 (nI i + (1 : Int32))).bind fun v50 => (rdI M 0 (nI i + (2 : Int32))).bind fun v51 => (rcv 11 M 8 (F_X11_where n M 8 v50 v51)).bind fun v52 => (rdI M 0 (nI i + (1 : Int32))).bind fun v53 => (rdI M 0 (nI i + (2 : Int32))).bind fun v54 => (rcv 12 M 95 (F_X12_where n M 95 v53 v54)).bind fun v55 => if v52 = v55 then j12 M else some (.inr (.inr ((0 : Int32), M)))) Q := by
  obtain ⟨K, R, S, tw, en, sd, W, V, P, N, H, rfl, hLy, hI, hG, hz, hlo⟩ := hM
  have hL := hLy.1
  have rd0 := RdOk.of hLy hlo
  obtain ⟨v, e1, e2⟩ := q_where hI hn (xs (i + 1)) (xs (i + 2))
  have f1 := E_X11_where_ok hn hL e1
  have f2 := E_X12_where_ok hn hL e2
  refine x_rd (k := 1) rd0 rfl (by decide) hi hL31 ?_
  refine x_rd (k := 2) rd0 rfl (by decide) hi hL31 ?_
  refine x_c (kd_8 hL) (Nat.le_refl _) f1 ?_
  refine x_rd (k := 1) rd0 rfl (by decide) hi hL31 ?_
  refine x_rd (k := 2) rd0 rfl (by decide) hi hL31 ?_
  refine x_c (kd_95 hL) (by decide) f2 ?_
  refine Ok.ifT rfl (hj _ ?_)
  exact ⟨K, R, S, tw, en, sd, W, V, P, N, H, rfl, hLy, hI, hG, hz, hlo⟩
theorem cs_6 {M : AM} {j12 : AM → Option ZL} {Q : ZL → Prop} (hn : 30000 ≤ n) (hi : i + 7 ≤ L) (hL31 : L < 2 ^ 31) (hM : LI L xs M) (hj : ∀ M, LI L xs M → Ok (j12 M) Q) : Ok ((rdI M 0 (nI i + (1 : Int32))).bind fun v58 => (rdI M 0 (nI i + (2 : Int32))).bind fun v59 => (rcv 11 M 8 (F_X11_earshot n M 8 v58 v59)).bind fun v60 => (rdI M 0 (nI i + (1 : Int32))).bind fun v61 => (rdI M 0 (nI i + (2 : Int32))).bind fun v62 => (rcv 12 M 95 (F_X12_earshot n M 95 v61 v62)).bind fun v63 => if v60 = v63 then j12 M else some (.inr (.inr ((0 : Int32), M)))) Q := by
  obtain ⟨K, R, S, tw, en, sd, W, V, P, N, H, rfl, hLy, hI, hG, hz, hlo⟩ := hM
  have hL := hLy.1
  have rd0 := RdOk.of hLy hlo
  obtain ⟨v, e1, e2⟩ := q_earshot hI hn (xs (i + 1)) (xs (i + 2))
  have f1 := E_X11_earshot_ok hn hL e1
  have f2 := E_X12_earshot_ok hn hL e2
  refine x_rd (k := 1) rd0 rfl (by decide) hi hL31 ?_
  refine x_rd (k := 2) rd0 rfl (by decide) hi hL31 ?_
  refine x_c (kd_8 hL) (Nat.le_refl _) f1 ?_
  refine x_rd (k := 1) rd0 rfl (by decide) hi hL31 ?_
  refine x_rd (k := 2) rd0 rfl (by decide) hi hL31 ?_
  refine x_c (kd_95 hL) (by decide) f2 ?_
  refine Ok.ifT rfl (hj _ ?_)
  exact ⟨K, R, S, tw, en, sd, W, V, P, N, H, rfl, hLy, hI, hG, hz, hlo⟩
theorem cs_7 {M : AM} {j12 : AM → Option ZL} {Q : ZL → Prop} (hn : 30000 ≤ n) (hi : i + 7 ≤ L) (hL31 : L < 2 ^ 31) (hM : LI L xs M) (hj : ∀ M, LI L xs M → Ok (j12 M) Q) : Ok ((rdI M 0 (nI i + (1 : Int32))).bind fun v66 => (rdI M 0 (nI i + (2 : Int32))).bind fun v67 => (rdI M 0 (nI i + (3 : Int32))).bind fun v68 => (rdI M 0 (nI i + (4 : Int32))).bind fun v69 => jn (fun (u70 : Int32) => (rcv 11 M 8 (F_X11_may n M 8 v66 v67 v68 u70)).bind fun v71 => (rdI v71.2 0 (nI i + (1 : Int32))).bind fun v72 => (rdI v71.2 0 (nI i + (2 : Int32))).bind fun v73 => (rdI v71.2 0 (nI i + (3 : Int32))).bind fun v74 => (rdI v71.2 0 (nI i + (4 : Int32))).bind fun v75 => jn (fun (u76 : Int32) => (rcv 12 v71.2 95 (F_X12_may n v71.2 95 v72 v73 v74 u76)).bind fun v77 => if v71.1 = v77.1 then j12 v77.2 else some (.inr (.inr ((0 : Int32), v77.2)))) fun j79 => if v75 = 0 then j79 (0 : Int32) else j79 (1 : Int32)) fun j81 => if v69 = 0 then j81 (0 : Int32) else j81 (1 : Int32)) Q := by
  obtain ⟨K, R, S, tw, en, sd, W, V, P, N, H, rfl, hLy, hI, hG, hz, hlo⟩ := hM
  have hL := hLy.1
  have rd0 := RdOk.of hLy hlo
  obtain ⟨v, S1, S2, e1, e2, hI2, d⟩ := q_may hI hn (xs (i + 1)) (xs (i + 2)) (xs (i + 3)) (s := (decide (xs (i + 4) ≠ 0)).toNat) (by cases decide (xs (i + 4) ≠ 0) <;> decide)
  have f1 := E_X11_may_ok hn hL e1
  have f2 := E_X12_may_ok hn hL e2
  rw [nI_tN] at f1 f2
  have rd1 := rd0.mono (C_X11_may f1).1
  refine x_rd (k := 1) rd0 rfl (by decide) hi hL31 ?_
  refine x_rd (k := 2) rd0 rfl (by decide) hi hL31 ?_
  refine x_rd (k := 3) rd0 rfl (by decide) hi hL31 ?_
  refine x_rd (k := 4) rd0 rfl (by decide) hi hL31 ?_
  refine x_jb ?_
  refine x_c (kd_8 hL) (Nat.le_refl _) f1 ?_
  refine x_rd (k := 1) rd1 rfl (by decide) hi hL31 ?_
  refine x_rd (k := 2) rd1 rfl (by decide) hi hL31 ?_
  refine x_rd (k := 3) rd1 rfl (by decide) hi hL31 ?_
  refine x_rd (k := 4) rd1 rfl (by decide) hi hL31 ?_
  refine x_jb ?_
  refine x_c (kd_95 hL) (by decide) f2 ?_
  refine Ok.ifT rfl (hj _ ?_)
  exact li_q hG hz hlo hLy hI2 d
theorem cs_8 {M : AM} {j12 : AM → Option ZL} {Q : ZL → Prop} (hn : 30000 ≤ n) (hi : i + 7 ≤ L) (hL31 : L < 2 ^ 31) (hM : LI L xs M) (hj : ∀ M, LI L xs M → Ok (j12 M) Q) : Ok ((rdI M 0 (nI i + (1 : Int32))).bind fun v84 => (rdI M 0 (nI i + (2 : Int32))).bind fun v85 => (rdI M 0 (nI i + (3 : Int32))).bind fun v86 => (rdI M 0 (nI i + (4 : Int32))).bind fun v87 => (rcv 11 M 8 (F_X11_say n M 8 v84 v85 v86 v87)).bind fun v88 => (rdI v88.2 0 (nI i + (1 : Int32))).bind fun v89 => (rdI v88.2 0 (nI i + (2 : Int32))).bind fun v90 => (rdI v88.2 0 (nI i + (3 : Int32))).bind fun v91 => (rdI v88.2 0 (nI i + (4 : Int32))).bind fun v92 => (rcv 12 v88.2 95 (F_X12_say n v88.2 95 v89 v90 v91 v92)).bind fun v93 => if v88.1 = v93.1 then j12 v93.2 else some (.inr (.inr ((0 : Int32), v93.2)))) Q := by
  obtain ⟨K, R, S, tw, en, sd, W, V, P, N, H, rfl, hLy, hI, hG, hz, hlo⟩ := hM
  have hL := hLy.1
  have rd0 := RdOk.of hLy hlo
  obtain ⟨v, S1, S2, P', N', H', e1, e2, hI2, d⟩ := q_say hI (xs (i + 1)) (xs (i + 2)) (xs (i + 3)) (xs (i + 4))
  have f1 := E_X11_say_ok hn hL e1
  have f2 := E_X12_say_ok hn hL e2
  have rd1 := rd0.mono (C_X11_say f1).1
  refine x_rd (k := 1) rd0 rfl (by decide) hi hL31 ?_
  refine x_rd (k := 2) rd0 rfl (by decide) hi hL31 ?_
  refine x_rd (k := 3) rd0 rfl (by decide) hi hL31 ?_
  refine x_rd (k := 4) rd0 rfl (by decide) hi hL31 ?_
  refine x_c (kd_8 hL) (Nat.le_refl _) f1 ?_
  refine x_rd (k := 1) rd1 rfl (by decide) hi hL31 ?_
  refine x_rd (k := 2) rd1 rfl (by decide) hi hL31 ?_
  refine x_rd (k := 3) rd1 rfl (by decide) hi hL31 ?_
  refine x_rd (k := 4) rd1 rfl (by decide) hi hL31 ?_
  refine x_c (kd_95 hL) (by decide) f2 ?_
  refine Ok.ifT rfl (hj _ ?_)
  exact li_q hG hz hlo hLy hI2 d
theorem cs_9 {M : AM} {j12 : AM → Option ZL} {Q : ZL → Prop} (hn : 30000 ≤ n) (hi : i + 7 ≤ L) (hL31 : L < 2 ^ 31) (hM : LI L xs M) (hj : ∀ M, LI L xs M → Ok (j12 M) Q) : Ok ((rdI M 0 (nI i + (1 : Int32))).bind fun v96 => (rdI M 0 (nI i + (2 : Int32))).bind fun v97 => (rdI M 0 (nI i + (3 : Int32))).bind fun v98 => (rcv 11 M 8 (F_X11_show n M 8 v96 v97 v98)).bind fun v99 => (rdI v99.2 0 (nI i + (1 : Int32))).bind fun v100 => (rdI v99.2 0 (nI i + (2 : Int32))).bind fun v101 => (rdI v99.2 0 (nI i + (3 : Int32))).bind fun v102 => (rcv 12 v99.2 95 (F_X12_show n v99.2 95 v100 v101 v102)).bind fun v103 => if v99.1 = v103.1 then j12 v103.2 else some (.inr (.inr ((0 : Int32), v103.2)))) Q := by
  obtain ⟨K, R, S, tw, en, sd, W, V, P, N, H, rfl, hLy, hI, hG, hz, hlo⟩ := hM
  have hL := hLy.1
  have rd0 := RdOk.of hLy hlo
  obtain ⟨v, S1, S2, P', N', H', e1, e2, hI2, d⟩ := q_show hI (xs (i + 1)) (xs (i + 2)) (xs (i + 3))
  have f1 := E_X11_show_ok hn hL e1
  have f2 := E_X12_show_ok hn hL e2
  have rd1 := rd0.mono (C_X11_show f1).1
  refine x_rd (k := 1) rd0 rfl (by decide) hi hL31 ?_
  refine x_rd (k := 2) rd0 rfl (by decide) hi hL31 ?_
  refine x_rd (k := 3) rd0 rfl (by decide) hi hL31 ?_
  refine x_c (kd_8 hL) (Nat.le_refl _) f1 ?_
  refine x_rd (k := 1) rd1 rfl (by decide) hi hL31 ?_
  refine x_rd (k := 2) rd1 rfl (by decide) hi hL31 ?_
  refine x_rd (k := 3) rd1 rfl (by decide) hi hL31 ?_
  refine x_c (kd_95 hL) (by decide) f2 ?_
  refine Ok.ifT rfl (hj _ ?_)
  exact li_q hG hz hlo hLy hI2 d
theorem cs_10 {M : AM} {j12 : AM → Option ZL} {Q : ZL → Prop} (hn : 30000 ≤ n) (hi : i + 7 ≤ L) (hL31 : L < 2 ^ 31) (hM : LI L xs M) (hj : ∀ M, LI L xs M → Ok (j12 M) Q) : Ok ((rdI M 0 (nI i + (1 : Int32))).bind fun v106 => (rdI M 0 (nI i + (2 : Int32))).bind fun v107 => (rdI M 0 (nI i + (3 : Int32))).bind fun v108 => (rcv 11 M 8 (F_X11_leave n M 8 v106 v107 v108)).bind fun v109 => (rdI v109.2 0 (nI i + (1 : Int32))).bind fun v110 => (rdI v109.2 0 (nI i + (2 : Int32))).bind fun v111 => (rdI v109.2 0 (nI i + (3 : Int32))).bind fun v112 => (rcv 12 v109.2 95 (F_X12_leave n v109.2 95 v110 v111 v112)).bind fun v113 => if v109.1 = v113.1 then j12 v113.2 else some (.inr (.inr ((0 : Int32), v113.2)))) Q := by
  obtain ⟨K, R, S, tw, en, sd, W, V, P, N, H, rfl, hLy, hI, hG, hz, hlo⟩ := hM
  have hL := hLy.1
  have rd0 := RdOk.of hLy hlo
  obtain ⟨v, S1, S2, P', N', H', e1, e2, hI2, d⟩ := q_leave hI (xs (i + 1)) (xs (i + 2)) (xs (i + 3))
  have f1 := E_X11_leave_ok hn hL e1
  have f2 := E_X12_leave_ok hn hL e2
  have rd1 := rd0.mono (C_X11_leave f1).1
  refine x_rd (k := 1) rd0 rfl (by decide) hi hL31 ?_
  refine x_rd (k := 2) rd0 rfl (by decide) hi hL31 ?_
  refine x_rd (k := 3) rd0 rfl (by decide) hi hL31 ?_
  refine x_c (kd_8 hL) (Nat.le_refl _) f1 ?_
  refine x_rd (k := 1) rd1 rfl (by decide) hi hL31 ?_
  refine x_rd (k := 2) rd1 rfl (by decide) hi hL31 ?_
  refine x_rd (k := 3) rd1 rfl (by decide) hi hL31 ?_
  refine x_c (kd_95 hL) (by decide) f2 ?_
  refine Ok.ifT rfl (hj _ ?_)
  exact li_q hG hz hlo hLy hI2 d
theorem cs_11 {M : AM} {j12 : AM → Option ZL} {Q : ZL → Prop} (hn : 30000 ≤ n) (hi : i + 7 ≤ L) (hL31 : L < 2 ^ 31) (hM : LI L xs M) (hj : ∀ M, LI L xs M → Ok (j12 M) Q) : Ok ((rdI M 0 (nI i + (1 : Int32))).bind fun v116 => (rdI M 0 (nI i + (2 : Int32))).bind fun v117 => (rdI M 0 (nI i + (3 : Int32))).bind fun v118 => (rdI M 0 (nI i + (4 : Int32))).bind fun v119 => (rcv 11 M 8 (F_X11_ask n M 8 v116 v117 v118 v119)).bind fun v120 => (rdI v120.2 0 (nI i + (1 : Int32))).bind fun v121 => (rdI v120.2 0 (nI i + (2 : Int32))).bind fun v122 => (rdI v120.2 0 (nI i + (3 : Int32))).bind fun v123 => (rdI v120.2 0 (nI i + (4 : Int32))).bind fun v124 => (rcv 12 v120.2 95 (F_X12_ask n v120.2 95 v121 v122 v123 v124)).bind fun v125 => if v120.1 = v125.1 then j12 v125.2 else some (.inr (.inr ((0 : Int32), v125.2)))) Q := by
  obtain ⟨K, R, S, tw, en, sd, W, V, P, N, H, rfl, hLy, hI, hG, hz, hlo⟩ := hM
  have hL := hLy.1
  have rd0 := RdOk.of hLy hlo
  obtain ⟨v, S1, S2, P', N', H', e1, e2, hI2, d⟩ := q_ask hI (xs (i + 1)) (xs (i + 2)) (xs (i + 3)) (xs (i + 4))
  have f1 := E_X11_ask_ok hn hL e1
  have f2 := E_X12_ask_ok hn hL e2
  have rd1 := rd0.mono (C_X11_ask f1).1
  refine x_rd (k := 1) rd0 rfl (by decide) hi hL31 ?_
  refine x_rd (k := 2) rd0 rfl (by decide) hi hL31 ?_
  refine x_rd (k := 3) rd0 rfl (by decide) hi hL31 ?_
  refine x_rd (k := 4) rd0 rfl (by decide) hi hL31 ?_
  refine x_c (kd_8 hL) (Nat.le_refl _) f1 ?_
  refine x_rd (k := 1) rd1 rfl (by decide) hi hL31 ?_
  refine x_rd (k := 2) rd1 rfl (by decide) hi hL31 ?_
  refine x_rd (k := 3) rd1 rfl (by decide) hi hL31 ?_
  refine x_rd (k := 4) rd1 rfl (by decide) hi hL31 ?_
  refine x_c (kd_95 hL) (by decide) f2 ?_
  refine Ok.ifT rfl (hj _ ?_)
  exact li_q hG hz hlo hLy hI2 d
theorem cs_12 {M : AM} {j12 : AM → Option ZL} {Q : ZL → Prop} (hn : 30000 ≤ n) (hi : i + 7 ≤ L) (hL31 : L < 2 ^ 31) (hM : LI L xs M) (hj : ∀ M, LI L xs M → Ok (j12 M) Q) : Ok ((rdI M 0 (nI i + (1 : Int32))).bind fun v128 => (rcv 11 M 8 (F_X11_drop n M 8 v128)).bind fun v129 => (rdI v129.2 0 (nI i + (1 : Int32))).bind fun v130 => (rcv 12 v129.2 95 (F_X12_drop n v129.2 95 v130)).bind fun v131 => if v129.1 = v131.1 then j12 v131.2 else some (.inr (.inr ((0 : Int32), v131.2)))) Q := by
  obtain ⟨K, R, S, tw, en, sd, W, V, P, N, H, rfl, hLy, hI, hG, hz, hlo⟩ := hM
  have hL := hLy.1
  have rd0 := RdOk.of hLy hlo
  obtain ⟨v, S1, S2, P', N', H', e1, e2, hI2, d⟩ := q_drop hI hn (xs (i + 1))
  have f1 := E_X11_drop_ok hn hL e1
  have f2 := E_X12_drop_ok hn hL e2
  have rd1 := rd0.mono (C_X11_drop f1).1
  refine x_rd (k := 1) rd0 rfl (by decide) hi hL31 ?_
  refine x_c (kd_8 hL) (Nat.le_refl _) f1 ?_
  refine x_rd (k := 1) rd1 rfl (by decide) hi hL31 ?_
  refine x_c (kd_95 hL) (by decide) f2 ?_
  refine Ok.ifT rfl (hj _ ?_)
  exact li_q hG hz hlo hLy hI2 d
theorem cs_13 {M : AM} {j12 : AM → Option ZL} {Q : ZL → Prop} (hn : 30000 ≤ n) (hi : i + 7 ≤ L) (hL31 : L < 2 ^ 31) (hM : LI L xs M) (hj : ∀ M, LI L xs M → Ok (j12 M) Q) : Ok ((rdI M 0 (nI i + (1 : Int32))).bind fun v134 => (rdI M 0 (nI i + (2 : Int32))).bind fun v135 => (rcv 11 M 8 (F_X11_doing n M 8 v134 v135)).bind fun v136 => (rdI v136.2 0 (nI i + (1 : Int32))).bind fun v137 => (rdI v136.2 0 (nI i + (2 : Int32))).bind fun v138 => (rcv 12 v136.2 95 (F_X12_doing n v136.2 95 v137 v138)).bind fun v139 => if v136.1 = v139.1 then j12 v139.2 else some (.inr (.inr ((0 : Int32), v139.2)))) Q := by
  obtain ⟨K, R, S, tw, en, sd, W, V, P, N, H, rfl, hLy, hI, hG, hz, hlo⟩ := hM
  have hL := hLy.1
  have rd0 := RdOk.of hLy hlo
  obtain ⟨v, S1, S2, e1, e2, hI2, d⟩ := q_doing hI hn (xs (i + 1)) (xs (i + 2))
  have f1 := E_X11_doing_ok hn hL e1
  have f2 := E_X12_doing_ok hn hL e2
  have rd1 := rd0.mono (C_X11_doing f1).1
  refine x_rd (k := 1) rd0 rfl (by decide) hi hL31 ?_
  refine x_rd (k := 2) rd0 rfl (by decide) hi hL31 ?_
  refine x_c (kd_8 hL) (Nat.le_refl _) f1 ?_
  refine x_rd (k := 1) rd1 rfl (by decide) hi hL31 ?_
  refine x_rd (k := 2) rd1 rfl (by decide) hi hL31 ?_
  refine x_c (kd_95 hL) (by decide) f2 ?_
  refine Ok.ifT rfl (hj _ ?_)
  exact li_q hG hz hlo hLy hI2 d
theorem cs_14 {M : AM} {j12 : AM → Option ZL} {Q : ZL → Prop} (hn : 30000 ≤ n) (hi : i + 7 ≤ L) (hL31 : L < 2 ^ 31) (hM : LI L xs M) (hj : ∀ M, LI L xs M → Ok (j12 M) Q) : Ok ((rcv 11 M 8 (F_X11_judge n M 8)).bind fun v142 => (rcv 12 v142.2 95 (F_X12_judge n v142.2 95)).bind fun v143 => if v142.1 = v143.1 then j12 v143.2 else some (.inr (.inr ((0 : Int32), v143.2)))) Q := by
  obtain ⟨K, R, S, tw, en, sd, W, V, P, N, H, rfl, hLy, hI, hG, hz, hlo⟩ := hM
  have hL := hLy.1
  have rd0 := RdOk.of hLy hlo
  obtain ⟨v, S1, S2, e1, e2, hI2, d⟩ := q_judge hI hn 
  have f1 := E_X11_judge_ok hn hL e1
  have f2 := E_X12_judge_ok hn hL e2
  refine x_c (kd_8 hL) (Nat.le_refl _) f1 ?_
  refine x_c (kd_95 hL) (by decide) f2 ?_
  refine Ok.ifT rfl (hj _ ?_)
  exact li_q hG hz hlo hLy hI2 d
theorem cs_15 {M : AM} {j12 : AM → Option ZL} {Q : ZL → Prop} (hn : 30000 ≤ n) (hi : i + 7 ≤ L) (hL31 : L < 2 ^ 31) (hM : LI L xs M) (hj : ∀ M, LI L xs M → Ok (j12 M) Q) : Ok ((rcv 11 M 8 (F_X11_cost n M 8)).bind fun v146 => (rcv 12 v146.2 95 (F_X12_cost n v146.2 95)).bind fun v147 => if v146.1 = v147.1 then j12 v147.2 else some (.inr (.inr ((0 : Int32), v147.2)))) Q := by
  obtain ⟨K, R, S, tw, en, sd, W, V, P, N, H, rfl, hLy, hI, hG, hz, hlo⟩ := hM
  have hL := hLy.1
  have rd0 := RdOk.of hLy hlo
  obtain ⟨v, S1, S2, e1, e2, hI2, d⟩ := q_cost hI hn 
  have f1 := E_X11_cost_ok hn hL e1
  have f2 := E_X12_cost_ok hn hL e2
  refine x_c (kd_8 hL) (Nat.le_refl _) f1 ?_
  refine x_c (kd_95 hL) (by decide) f2 ?_
  refine Ok.ifT rfl (hj _ ?_)
  exact li_q hG hz hlo hLy hI2 d
theorem cs_16 {M : AM} {j12 : AM → Option ZL} {Q : ZL → Prop} (hn : 30000 ≤ n) (hi : i + 7 ≤ L) (hL31 : L < 2 ^ 31) (hM : LI L xs M) (hj : ∀ M, LI L xs M → Ok (j12 M) Q) : Ok ((rdI M 0 (nI i + (1 : Int32))).bind fun v150 => (rdI M 0 (nI i + (2 : Int32))).bind fun v151 => (rcv 11 M 8 (F_X11_knows n M 8 v150 v151)).bind fun v152 => (rdI v152.2 0 (nI i + (1 : Int32))).bind fun v153 => (rdI v152.2 0 (nI i + (2 : Int32))).bind fun v154 => (rcv 12 v152.2 95 (F_X12_knows n v152.2 95 v153 v154)).bind fun v155 => if v152.1 = v155.1 then j12 v155.2 else some (.inr (.inr ((0 : Int32), v155.2)))) Q := by
  obtain ⟨K, R, S, tw, en, sd, W, V, P, N, H, rfl, hLy, hI, hG, hz, hlo⟩ := hM
  have hL := hLy.1
  have rd0 := RdOk.of hLy hlo
  obtain ⟨v, S1, S2, e1, e2, hI2, d⟩ := q_knows hI hn (xs (i + 1)) (xs (i + 2))
  have f1 := E_X11_knows_ok hn hL e1
  have f2 := E_X12_knows_ok hn hL e2
  have rd1 := rd0.mono (C_X11_knows f1).1
  refine x_rd (k := 1) rd0 rfl (by decide) hi hL31 ?_
  refine x_rd (k := 2) rd0 rfl (by decide) hi hL31 ?_
  refine x_c (kd_8 hL) (Nat.le_refl _) f1 ?_
  refine x_rd (k := 1) rd1 rfl (by decide) hi hL31 ?_
  refine x_rd (k := 2) rd1 rfl (by decide) hi hL31 ?_
  refine x_c (kd_95 hL) (by decide) f2 ?_
  refine Ok.ifT rfl (hj _ ?_)
  exact li_q hG hz hlo hLy hI2 d
theorem cs_17 {M : AM} {j12 : AM → Option ZL} {Q : ZL → Prop} (hn : 30000 ≤ n) (hi : i + 7 ≤ L) (hL31 : L < 2 ^ 31) (hM : LI L xs M) (hj : ∀ M, LI L xs M → Ok (j12 M) Q) : Ok ((rdI M 0 (nI i + (1 : Int32))).bind fun v158 => (rdI M 0 (nI i + (2 : Int32))).bind fun v159 => (rcv 11 M 8 (F_X11_when n M 8 v158 v159)).bind fun v160 => (rdI v160.2 0 (nI i + (1 : Int32))).bind fun v161 => (rdI v160.2 0 (nI i + (2 : Int32))).bind fun v162 => (rcv 12 v160.2 95 (F_X12_when n v160.2 95 v161 v162)).bind fun v163 => if v160.1 = v163.1 then j12 v163.2 else some (.inr (.inr ((0 : Int32), v163.2)))) Q := by
  obtain ⟨K, R, S, tw, en, sd, W, V, P, N, H, rfl, hLy, hI, hG, hz, hlo⟩ := hM
  have hL := hLy.1
  have rd0 := RdOk.of hLy hlo
  obtain ⟨v, S1, S2, e1, e2, hI2, d⟩ := q_when hI hn (xs (i + 1)) (xs (i + 2))
  have f1 := E_X11_when_ok hn hL e1
  have f2 := E_X12_when_ok hn hL e2
  have rd1 := rd0.mono (C_X11_when f1).1
  refine x_rd (k := 1) rd0 rfl (by decide) hi hL31 ?_
  refine x_rd (k := 2) rd0 rfl (by decide) hi hL31 ?_
  refine x_c (kd_8 hL) (Nat.le_refl _) f1 ?_
  refine x_rd (k := 1) rd1 rfl (by decide) hi hL31 ?_
  refine x_rd (k := 2) rd1 rfl (by decide) hi hL31 ?_
  refine x_c (kd_95 hL) (by decide) f2 ?_
  refine Ok.ifT rfl (hj _ ?_)
  exact li_q hG hz hlo hLy hI2 d
theorem cs_18 {M : AM} {j12 : AM → Option ZL} {Q : ZL → Prop} (hn : 30000 ≤ n) (hi : i + 7 ≤ L) (hL31 : L < 2 ^ 31) (hM : LI L xs M) (hj : ∀ M, LI L xs M → Ok (j12 M) Q) : Ok ((rdI M 0 (nI i + (1 : Int32))).bind fun v166 => (rdI M 0 (nI i + (2 : Int32))).bind fun v167 => (rdI M 0 (nI i + (3 : Int32))).bind fun v168 => (rcv 11 M 8 (F_X11_seen n M 8 v166 v167 v168)).bind fun v169 => (rdI v169.2 0 (nI i + (1 : Int32))).bind fun v170 => (rdI v169.2 0 (nI i + (2 : Int32))).bind fun v171 => (rdI v169.2 0 (nI i + (3 : Int32))).bind fun v172 => (rcv 12 v169.2 95 (F_X12_seen n v169.2 95 v170 v171 v172)).bind fun v173 => if v169.1 = v173.1 then j12 v173.2 else some (.inr (.inr ((0 : Int32), v173.2)))) Q := by
  obtain ⟨K, R, S, tw, en, sd, W, V, P, N, H, rfl, hLy, hI, hG, hz, hlo⟩ := hM
  have hL := hLy.1
  have rd0 := RdOk.of hLy hlo
  obtain ⟨v, S1, S2, e1, e2, hI2, d⟩ := q_seen hI hn (xs (i + 1)) (xs (i + 2)) (xs (i + 3))
  have f1 := E_X11_seen_ok hn hL e1
  have f2 := E_X12_seen_ok hn hL e2
  have rd1 := rd0.mono (C_X11_seen f1).1
  refine x_rd (k := 1) rd0 rfl (by decide) hi hL31 ?_
  refine x_rd (k := 2) rd0 rfl (by decide) hi hL31 ?_
  refine x_rd (k := 3) rd0 rfl (by decide) hi hL31 ?_
  refine x_c (kd_8 hL) (Nat.le_refl _) f1 ?_
  refine x_rd (k := 1) rd1 rfl (by decide) hi hL31 ?_
  refine x_rd (k := 2) rd1 rfl (by decide) hi hL31 ?_
  refine x_rd (k := 3) rd1 rfl (by decide) hi hL31 ?_
  refine x_c (kd_95 hL) (by decide) f2 ?_
  refine Ok.ifT rfl (hj _ ?_)
  exact li_q hG hz hlo hLy hI2 d
theorem cs_19 {M : AM} {j12 : AM → Option ZL} {Q : ZL → Prop} (hn : 30000 ≤ n) (hi : i + 7 ≤ L) (hL31 : L < 2 ^ 31) (hM : LI L xs M) (hj : ∀ M, LI L xs M → Ok (j12 M) Q) : Ok ((rdI M 0 (nI i + (1 : Int32))).bind fun v176 => (rdI M 0 (nI i + (2 : Int32))).bind fun v177 => (rdI M 0 (nI i + (3 : Int32))).bind fun v178 => (rdI M 0 (nI i + (4 : Int32))).bind fun v179 => (rdI M 0 (nI i + (5 : Int32))).bind fun v180 => (rdI M 0 (nI i + (6 : Int32))).bind fun v181 => jn (fun (u182 : Int32) => (rcv 11 M 8 (F_X11_soon n M 8 v176 v177 v178 v179 v180 u182)).bind fun v183 => (rdI v183.2 0 (nI i + (1 : Int32))).bind fun v184 => (rdI v183.2 0 (nI i + (2 : Int32))).bind fun v185 => (rdI v183.2 0 (nI i + (3 : Int32))).bind fun v186 => (rdI v183.2 0 (nI i + (4 : Int32))).bind fun v187 => (rdI v183.2 0 (nI i + (5 : Int32))).bind fun v188 => (rdI v183.2 0 (nI i + (6 : Int32))).bind fun v189 => jn (fun (u190 : Int32) => (rcv 12 v183.2 95 (F_X12_soon n v183.2 95 v184 v185 v186 v187 v188 u190)).bind fun v191 => if v183.1 = v191.1 then j12 v191.2 else some (.inr (.inr ((0 : Int32), v191.2)))) fun j193 => if v189 = 0 then j193 (0 : Int32) else j193 (1 : Int32)) fun j195 => if v181 = 0 then j195 (0 : Int32) else j195 (1 : Int32)) Q := by
  obtain ⟨K, R, S, tw, en, sd, W, V, P, N, H, rfl, hLy, hI, hG, hz, hlo⟩ := hM
  have hL := hLy.1
  have rd0 := RdOk.of hLy hlo
  obtain ⟨v, S1, S2, e1, e2, hI2, d⟩ := q_soon hI hn (xs (i + 1)) (xs (i + 2)) (xs (i + 3)) (xs (i + 4)) (xs (i + 5)) (decide (xs (i + 6) ≠ 0))
  have f1 := E_X11_soon_ok hn hL e1
  have f2 := E_X12_soon_ok hn hL e2
  have rd1 := rd0.mono (C_X11_soon f1).1
  refine x_rd (k := 1) rd0 rfl (by decide) hi hL31 ?_
  refine x_rd (k := 2) rd0 rfl (by decide) hi hL31 ?_
  refine x_rd (k := 3) rd0 rfl (by decide) hi hL31 ?_
  refine x_rd (k := 4) rd0 rfl (by decide) hi hL31 ?_
  refine x_rd (k := 5) rd0 rfl (by decide) hi hL31 ?_
  refine x_rd (k := 6) rd0 rfl (by decide) hi hL31 ?_
  refine x_jb ?_
  refine x_c (kd_8 hL) (Nat.le_refl _) f1 ?_
  refine x_rd (k := 1) rd1 rfl (by decide) hi hL31 ?_
  refine x_rd (k := 2) rd1 rfl (by decide) hi hL31 ?_
  refine x_rd (k := 3) rd1 rfl (by decide) hi hL31 ?_
  refine x_rd (k := 4) rd1 rfl (by decide) hi hL31 ?_
  refine x_rd (k := 5) rd1 rfl (by decide) hi hL31 ?_
  refine x_rd (k := 6) rd1 rfl (by decide) hi hL31 ?_
  refine x_jb ?_
  refine x_c (kd_95 hL) (by decide) f2 ?_
  refine Ok.ifT rfl (hj _ ?_)
  exact li_q hG hz hlo hLy hI2 d
theorem cs_20 {M : AM} {j12 : AM → Option ZL} {Q : ZL → Prop} (hn : 30000 ≤ n) (hi : i + 7 ≤ L) (hL31 : L < 2 ^ 31) (hM : LI L xs M) (hj : ∀ M, LI L xs M → Ok (j12 M) Q) : Ok ((rdI M 0 (nI i + (1 : Int32))).bind fun v198 => (rdI M 0 (nI i + (2 : Int32))).bind fun v199 => (rdI M 0 (nI i + (3 : Int32))).bind fun v200 => (rdI M 0 (nI i + (4 : Int32))).bind fun v201 => (rdI M 0 (nI i + (5 : Int32))).bind fun v202 => jn (fun (u203 : Int32) => (rcv 11 M 8 (F_X11_all n M 8 v198 v199 v200 v201 u203)).bind fun v204 => (rdI v204.2 0 (nI i + (1 : Int32))).bind fun v205 => (rdI v204.2 0 (nI i + (2 : Int32))).bind fun v206 => (rdI v204.2 0 (nI i + (3 : Int32))).bind fun v207 => (rdI v204.2 0 (nI i + (4 : Int32))).bind fun v208 => (rdI v204.2 0 (nI i + (5 : Int32))).bind fun v209 => jn (fun (u210 : Int32) => (rcv 12 v204.2 95 (F_X12_all n v204.2 95 v205 v206 v207 v208 u210)).bind fun v211 => if v204.1 = v211.1 then j12 v211.2 else some (.inr (.inr ((0 : Int32), v211.2)))) fun j213 => if v209 = 0 then j213 (0 : Int32) else j213 (1 : Int32)) fun j215 => if v202 = 0 then j215 (0 : Int32) else j215 (1 : Int32)) Q := by
  obtain ⟨K, R, S, tw, en, sd, W, V, P, N, H, rfl, hLy, hI, hG, hz, hlo⟩ := hM
  have hL := hLy.1
  have rd0 := RdOk.of hLy hlo
  obtain ⟨v, S1, S2, e1, e2, hI2, d⟩ := q_all hI hn (xs (i + 1)) (xs (i + 2)) (xs (i + 3)) (xs (i + 4)) (decide (xs (i + 5) ≠ 0))
  have f1 := E_X11_all_ok hn hL e1
  have f2 := E_X12_all_ok hn hL e2
  have rd1 := rd0.mono (C_X11_all f1).1
  refine x_rd (k := 1) rd0 rfl (by decide) hi hL31 ?_
  refine x_rd (k := 2) rd0 rfl (by decide) hi hL31 ?_
  refine x_rd (k := 3) rd0 rfl (by decide) hi hL31 ?_
  refine x_rd (k := 4) rd0 rfl (by decide) hi hL31 ?_
  refine x_rd (k := 5) rd0 rfl (by decide) hi hL31 ?_
  refine x_jb ?_
  refine x_c (kd_8 hL) (Nat.le_refl _) f1 ?_
  refine x_rd (k := 1) rd1 rfl (by decide) hi hL31 ?_
  refine x_rd (k := 2) rd1 rfl (by decide) hi hL31 ?_
  refine x_rd (k := 3) rd1 rfl (by decide) hi hL31 ?_
  refine x_rd (k := 4) rd1 rfl (by decide) hi hL31 ?_
  refine x_rd (k := 5) rd1 rfl (by decide) hi hL31 ?_
  refine x_jb ?_
  refine x_c (kd_95 hL) (by decide) f2 ?_
  refine Ok.ifT rfl (hj _ ?_)
  exact li_q hG hz hlo hLy hI2 d
theorem cs_21 {M : AM} {j12 : AM → Option ZL} {Q : ZL → Prop} (hn : 30000 ≤ n) (hi : i + 7 ≤ L) (hL31 : L < 2 ^ 31) (hM : LI L xs M) (hj : ∀ M, LI L xs M → Ok (j12 M) Q) : Ok ((rdI M 0 (nI i + (1 : Int32))).bind fun v218 => (rdI M 0 (nI i + (2 : Int32))).bind fun v219 => (rdI M 0 (nI i + (3 : Int32))).bind fun v220 => (rdI M 0 (nI i + (4 : Int32))).bind fun v221 => (rdI M 0 (nI i + (5 : Int32))).bind fun v222 => (rcv 11 M 8 (F_X11_cheap n M 8 v218 v219 v220 v221 v222)).bind fun v223 => (rdI v223.2 0 (nI i + (1 : Int32))).bind fun v224 => (rdI v223.2 0 (nI i + (2 : Int32))).bind fun v225 => (rdI v223.2 0 (nI i + (3 : Int32))).bind fun v226 => (rdI v223.2 0 (nI i + (4 : Int32))).bind fun v227 => (rdI v223.2 0 (nI i + (5 : Int32))).bind fun v228 => (rcv 12 v223.2 95 (F_X12_cheap n v223.2 95 v224 v225 v226 v227 v228)).bind fun v229 => if v223.1 = v229.1 then j12 v229.2 else some (.inr (.inr ((0 : Int32), v229.2)))) Q := by
  obtain ⟨K, R, S, tw, en, sd, W, V, P, N, H, rfl, hLy, hI, hG, hz, hlo⟩ := hM
  have hL := hLy.1
  have rd0 := RdOk.of hLy hlo
  obtain ⟨K', R', en', v, S1, S2, f1, e2, hLy', hI2, d⟩ := q_cheap hI hn hLy hz (xs (i + 1)) (xs (i + 2)) (xs (i + 3)) (xs (i + 4)) (xs (i + 5))
  have f2 := E_X12_cheap_ok hn hLy'.1 e2
  have rd1 := rd0.mono (C_X11_cheap f1).1
  refine x_rd (k := 1) rd0 rfl (by decide) hi hL31 ?_
  refine x_rd (k := 2) rd0 rfl (by decide) hi hL31 ?_
  refine x_rd (k := 3) rd0 rfl (by decide) hi hL31 ?_
  refine x_rd (k := 4) rd0 rfl (by decide) hi hL31 ?_
  refine x_rd (k := 5) rd0 rfl (by decide) hi hL31 ?_
  refine x_c (kd_8 hL) (Nat.le_refl _) f1 ?_
  refine x_rd (k := 1) rd1 rfl (by decide) hi hL31 ?_
  refine x_rd (k := 2) rd1 rfl (by decide) hi hL31 ?_
  refine x_rd (k := 3) rd1 rfl (by decide) hi hL31 ?_
  refine x_rd (k := 4) rd1 rfl (by decide) hi hL31 ?_
  refine x_rd (k := 5) rd1 rfl (by decide) hi hL31 ?_
  refine x_c (kd_95 hLy'.1) (by decide) f2 ?_
  refine Ok.ifT rfl (hj _ ?_)
  exact li_q hG hz hlo hLy' hI2 d
theorem cs_22 {M : AM} {j12 : AM → Option ZL} {Q : ZL → Prop} (hn : 30000 ≤ n) (hi : i + 7 ≤ L) (hL31 : L < 2 ^ 31) (hM : LI L xs M) (hj : ∀ M, LI L xs M → Ok (j12 M) Q) : Ok ((rdI M 0 (nI i + (1 : Int32))).bind fun v232 => (rdI M 0 (nI i + (2 : Int32))).bind fun v233 => (rdI M 0 (nI i + (3 : Int32))).bind fun v234 => (rdI M 0 (nI i + (4 : Int32))).bind fun v235 => (rdI M 0 (nI i + (5 : Int32))).bind fun v236 => (rcv 11 M 8 (F_X11_cheapAt n M 8 v232 v233 v234 v235 v236)).bind fun v237 => (rdI v237.2 0 (nI i + (1 : Int32))).bind fun v238 => (rdI v237.2 0 (nI i + (2 : Int32))).bind fun v239 => (rdI v237.2 0 (nI i + (3 : Int32))).bind fun v240 => (rdI v237.2 0 (nI i + (4 : Int32))).bind fun v241 => (rdI v237.2 0 (nI i + (5 : Int32))).bind fun v242 => (rcv 12 v237.2 95 (F_X12_cheapAt n v237.2 95 v238 v239 v240 v241 v242)).bind fun v243 => if v237.1 = v243.1 then j12 v243.2 else some (.inr (.inr ((0 : Int32), v243.2)))) Q := by
  obtain ⟨K, R, S, tw, en, sd, W, V, P, N, H, rfl, hLy, hI, hG, hz, hlo⟩ := hM
  have hL := hLy.1
  have rd0 := RdOk.of hLy hlo
  obtain ⟨K', R', en', v, S1, S2, f1, e2, hLy', hI2, d⟩ := q_cheapAt hI hn hLy hz (xs (i + 1)) (xs (i + 2)) (xs (i + 3)) (xs (i + 4)) (xs (i + 5))
  have f2 := E_X12_cheapAt_ok hn hLy'.1 e2
  have rd1 := rd0.mono (C_X11_cheapAt f1).1
  refine x_rd (k := 1) rd0 rfl (by decide) hi hL31 ?_
  refine x_rd (k := 2) rd0 rfl (by decide) hi hL31 ?_
  refine x_rd (k := 3) rd0 rfl (by decide) hi hL31 ?_
  refine x_rd (k := 4) rd0 rfl (by decide) hi hL31 ?_
  refine x_rd (k := 5) rd0 rfl (by decide) hi hL31 ?_
  refine x_c (kd_8 hL) (Nat.le_refl _) f1 ?_
  refine x_rd (k := 1) rd1 rfl (by decide) hi hL31 ?_
  refine x_rd (k := 2) rd1 rfl (by decide) hi hL31 ?_
  refine x_rd (k := 3) rd1 rfl (by decide) hi hL31 ?_
  refine x_rd (k := 4) rd1 rfl (by decide) hi hL31 ?_
  refine x_rd (k := 5) rd1 rfl (by decide) hi hL31 ?_
  refine x_c (kd_95 hLy'.1) (by decide) f2 ?_
  refine Ok.ifT rfl (hj _ ?_)
  exact li_q hG hz hlo hLy' hI2 d
theorem cs_23 {M : AM} {j12 : AM → Option ZL} {Q : ZL → Prop} (hn : 30000 ≤ n) (hi : i + 7 ≤ L) (hL31 : L < 2 ^ 31) (hM : LI L xs M) (hj : ∀ M, LI L xs M → Ok (j12 M) Q) : Ok ((rdI M 0 (nI i + (1 : Int32))).bind fun v246 => (rdI M 0 (nI i + (2 : Int32))).bind fun v247 => (rcv 11 M 8 (F_X11_secret n M 8 v246 v247)).bind fun v248 => (rdI M 0 (nI i + (1 : Int32))).bind fun v249 => (rdI M 0 (nI i + (2 : Int32))).bind fun v250 => (rcv 12 M 95 (F_X12_secret n M 95 v249 v250)).bind fun v251 => if v248 = v251.1 then j12 v251.2 else some (.inr (.inr ((0 : Int32), v251.2)))) Q := by
  obtain ⟨K, R, S, tw, en, sd, W, V, P, N, H, rfl, hLy, hI, hG, hz, hlo⟩ := hM
  have hL := hLy.1
  have rd0 := RdOk.of hLy hlo
  obtain ⟨v, S2, e1, e2, hI2, d⟩ := q_secret hI hn (xs (i + 1)) (xs (i + 2))
  have f1 := E_X11_secret_ok hn hL e1
  have f2 := E_X12_secret_ok hn hL e2
  refine x_rd (k := 1) rd0 rfl (by decide) hi hL31 ?_
  refine x_rd (k := 2) rd0 rfl (by decide) hi hL31 ?_
  refine x_c (kd_8 hL) (Nat.le_refl _) f1 ?_
  refine x_rd (k := 1) rd0 rfl (by decide) hi hL31 ?_
  refine x_rd (k := 2) rd0 rfl (by decide) hi hL31 ?_
  refine x_c (kd_95 hL) (by decide) f2 ?_
  refine Ok.ifT rfl (hj _ ?_)
  exact li_q hG hz hlo hLy hI2 d
theorem cs_24 {M : AM} {j12 : AM → Option ZL} {Q : ZL → Prop} (hn : 30000 ≤ n) (hi : i + 7 ≤ L) (hL31 : L < 2 ^ 31) (hM : LI L xs M) (hj : ∀ M, LI L xs M → Ok (j12 M) Q) : Ok ((rdI M 0 (nI i + (1 : Int32))).bind fun v254 => (rdI M 0 (nI i + (2 : Int32))).bind fun v255 => (rcv 11 M 8 (F_X11_below n M 8 v254 v255)).bind fun v256 => (rdI M 0 (nI i + (1 : Int32))).bind fun v257 => (rdI M 0 (nI i + (2 : Int32))).bind fun v258 => (rcv 12 M 95 (F_X12_below n M 95 v257 v258)).bind fun v259 => if v256 = v259.1 then j12 v259.2 else some (.inr (.inr ((0 : Int32), v259.2)))) Q := by
  obtain ⟨K, R, S, tw, en, sd, W, V, P, N, H, rfl, hLy, hI, hG, hz, hlo⟩ := hM
  have hL := hLy.1
  have rd0 := RdOk.of hLy hlo
  obtain ⟨v, S2, e1, e2, hI2, d⟩ := q_below hI hn (xs (i + 1)) (xs (i + 2))
  have f1 := E_X11_below_ok hn hL e1
  have f2 := E_X12_below_ok hn hL e2
  refine x_rd (k := 1) rd0 rfl (by decide) hi hL31 ?_
  refine x_rd (k := 2) rd0 rfl (by decide) hi hL31 ?_
  refine x_c (kd_8 hL) (Nat.le_refl _) f1 ?_
  refine x_rd (k := 1) rd0 rfl (by decide) hi hL31 ?_
  refine x_rd (k := 2) rd0 rfl (by decide) hi hL31 ?_
  refine x_c (kd_95 hL) (by decide) f2 ?_
  refine Ok.ifT rfl (hj _ ?_)
  exact li_q hG hz hlo hLy hI2 d
theorem cs_25 {M : AM} {j12 : AM → Option ZL} {Q : ZL → Prop} (hn : 30000 ≤ n) (hi : i + 7 ≤ L) (hL31 : L < 2 ^ 31) (hM : LI L xs M) (hj : ∀ M, LI L xs M → Ok (j12 M) Q) : Ok ((rdI M 0 (nI i + (1 : Int32))).bind fun v262 => (rdI M 0 (nI i + (2 : Int32))).bind fun v263 => (rdI M 0 (nI i + (3 : Int32))).bind fun v264 => (rcv 11 M 8 (F_X11_stand n M 8 v262 v263 v264)).bind fun v265 => (rdI M 0 (nI i + (1 : Int32))).bind fun v266 => (rdI M 0 (nI i + (2 : Int32))).bind fun v267 => (rdI M 0 (nI i + (3 : Int32))).bind fun v268 => (rcv 12 M 95 (F_X12_stand n M 95 v266 v267 v268)).bind fun v269 => if v265 = v269.1 then j12 v269.2 else some (.inr (.inr ((0 : Int32), v269.2)))) Q := by
  obtain ⟨K, R, S, tw, en, sd, W, V, P, N, H, rfl, hLy, hI, hG, hz, hlo⟩ := hM
  have hL := hLy.1
  have rd0 := RdOk.of hLy hlo
  obtain ⟨v, S2, e1, e2, hI2, d⟩ := q_stand hI hn (xs (i + 1)) (xs (i + 2)) (xs (i + 3))
  have f1 := E_X11_stand_ok hn hL e1
  have f2 := E_X12_stand_ok hn hL e2
  refine x_rd (k := 1) rd0 rfl (by decide) hi hL31 ?_
  refine x_rd (k := 2) rd0 rfl (by decide) hi hL31 ?_
  refine x_rd (k := 3) rd0 rfl (by decide) hi hL31 ?_
  refine x_c (kd_8 hL) (Nat.le_refl _) f1 ?_
  refine x_rd (k := 1) rd0 rfl (by decide) hi hL31 ?_
  refine x_rd (k := 2) rd0 rfl (by decide) hi hL31 ?_
  refine x_rd (k := 3) rd0 rfl (by decide) hi hL31 ?_
  refine x_c (kd_95 hL) (by decide) f2 ?_
  refine Ok.ifT rfl (hj _ ?_)
  exact li_q hG hz hlo hLy hI2 d
theorem cs_26 {M : AM} {j12 : AM → Option ZL} {Q : ZL → Prop} (hn : 30000 ≤ n) (hi : i + 7 ≤ L) (hL31 : L < 2 ^ 31) (hM : LI L xs M) (hj : ∀ M, LI L xs M → Ok (j12 M) Q) : Ok ((rdI M 0 (nI i + (1 : Int32))).bind fun v272 => (rdI M 0 (nI i + (2 : Int32))).bind fun v273 => (rdI M 0 (nI i + (3 : Int32))).bind fun v274 => (rcv 11 M 8 (F_X11_best n M 8 v272 v273 v274)).bind fun v275 => (rdI M 0 (nI i + (1 : Int32))).bind fun v276 => (rdI M 0 (nI i + (2 : Int32))).bind fun v277 => (rdI M 0 (nI i + (3 : Int32))).bind fun v278 => (rcv 12 M 95 (F_X12_best n M 95 v276 v277 v278)).bind fun v279 => if v275 = v279.1 then j12 v279.2 else some (.inr (.inr ((0 : Int32), v279.2)))) Q := by
  obtain ⟨K, R, S, tw, en, sd, W, V, P, N, H, rfl, hLy, hI, hG, hz, hlo⟩ := hM
  have hL := hLy.1
  have rd0 := RdOk.of hLy hlo
  obtain ⟨v, S2, e1, e2, hI2, d⟩ := q_best hI hn (xs (i + 1)) (xs (i + 2)) (xs (i + 3))
  have f1 := E_X11_best_ok hn hL e1
  have f2 := E_X12_best_ok hn hL e2
  refine x_rd (k := 1) rd0 rfl (by decide) hi hL31 ?_
  refine x_rd (k := 2) rd0 rfl (by decide) hi hL31 ?_
  refine x_rd (k := 3) rd0 rfl (by decide) hi hL31 ?_
  refine x_c (kd_8 hL) (Nat.le_refl _) f1 ?_
  refine x_rd (k := 1) rd0 rfl (by decide) hi hL31 ?_
  refine x_rd (k := 2) rd0 rfl (by decide) hi hL31 ?_
  refine x_rd (k := 3) rd0 rfl (by decide) hi hL31 ?_
  refine x_c (kd_95 hL) (by decide) f2 ?_
  refine Ok.ifT rfl (hj _ ?_)
  exact li_q hG hz hlo hLy hI2 d
theorem cs_27 {M : AM} {j12 : AM → Option ZL} {Q : ZL → Prop} (hn : 30000 ≤ n) (hi : i + 7 ≤ L) (hL31 : L < 2 ^ 31) (hM : LI L xs M) (hj : ∀ M, LI L xs M → Ok (j12 M) Q) : Ok ((rdI M 0 (nI i + (1 : Int32))).bind fun v282 => (rdI M 0 (nI i + (2 : Int32))).bind fun v283 => (rcv 11 M 8 (F_X11_lost n M 8 v282 v283)).bind fun v284 => (rdI v284.2 0 (nI i + (1 : Int32))).bind fun v285 => (rdI v284.2 0 (nI i + (2 : Int32))).bind fun v286 => (rcv 12 v284.2 95 (F_X12_lost n v284.2 95 v285 v286)).bind fun v287 => if v284.1 = v287.1 then j12 v287.2 else some (.inr (.inr ((0 : Int32), v287.2)))) Q := by
  obtain ⟨K, R, S, tw, en, sd, W, V, P, N, H, rfl, hLy, hI, hG, hz, hlo⟩ := hM
  have hL := hLy.1
  have rd0 := RdOk.of hLy hlo
  obtain ⟨v, S1, S2, e1, e2, hI2, d⟩ := q_lost hI hn (xs (i + 1)) (xs (i + 2))
  have f1 := E_X11_lost_ok hn hL e1
  have f2 := E_X12_lost_ok hn hL e2
  have rd1 := rd0.mono (C_X11_lost f1).1
  refine x_rd (k := 1) rd0 rfl (by decide) hi hL31 ?_
  refine x_rd (k := 2) rd0 rfl (by decide) hi hL31 ?_
  refine x_c (kd_8 hL) (Nat.le_refl _) f1 ?_
  refine x_rd (k := 1) rd1 rfl (by decide) hi hL31 ?_
  refine x_rd (k := 2) rd1 rfl (by decide) hi hL31 ?_
  refine x_c (kd_95 hL) (by decide) f2 ?_
  refine Ok.ifT rfl (hj _ ?_)
  exact li_q hG hz hlo hLy hI2 d
theorem cs_28 {M : AM} {j12 : AM → Option ZL} {Q : ZL → Prop} (hn : 30000 ≤ n) (hi : i + 7 ≤ L) (hL31 : L < 2 ^ 31) (hM : LI L xs M) (hj : ∀ M, LI L xs M → Ok (j12 M) Q) : Ok ((rdI M 0 (nI i + (1 : Int32))).bind fun v290 => (rdI M 0 (nI i + (2 : Int32))).bind fun v291 => (rcv 11 M 8 (F_X11_before n M 8 v290 v291)).bind fun v292 => (rdI v292.2 0 (nI i + (1 : Int32))).bind fun v293 => (rdI v292.2 0 (nI i + (2 : Int32))).bind fun v294 => (rcv 12 v292.2 95 (F_X12_before n v292.2 95 v293 v294)).bind fun v295 => if v292.1 = v295.1 then j12 v295.2 else some (.inr (.inr ((0 : Int32), v295.2)))) Q := by
  obtain ⟨K, R, S, tw, en, sd, W, V, P, N, H, rfl, hLy, hI, hG, hz, hlo⟩ := hM
  have hL := hLy.1
  have rd0 := RdOk.of hLy hlo
  obtain ⟨v, S1, S2, e1, e2, hI2, d⟩ := q_before hI hn (xs (i + 1)) (xs (i + 2))
  have f1 := E_X11_before_ok hn hL e1
  have f2 := E_X12_before_ok hn hL e2
  have rd1 := rd0.mono (C_X11_before f1).1
  refine x_rd (k := 1) rd0 rfl (by decide) hi hL31 ?_
  refine x_rd (k := 2) rd0 rfl (by decide) hi hL31 ?_
  refine x_c (kd_8 hL) (Nat.le_refl _) f1 ?_
  refine x_rd (k := 1) rd1 rfl (by decide) hi hL31 ?_
  refine x_rd (k := 2) rd1 rfl (by decide) hi hL31 ?_
  refine x_c (kd_95 hL) (by decide) f2 ?_
  refine Ok.ifT rfl (hj _ ?_)
  exact li_q hG hz hlo hLy hI2 d
theorem cs_29 {M : AM} {j12 : AM → Option ZL} {Q : ZL → Prop} (hn : 30000 ≤ n) (hi : i + 7 ≤ L) (hL31 : L < 2 ^ 31) (hM : LI L xs M) (hj : ∀ M, LI L xs M → Ok (j12 M) Q) : Ok ((rdI M 0 (nI i + (1 : Int32))).bind fun v298 => (rcv 11 M 8 (F_X11_missed n M 8 v298)).bind fun v299 => (rdI v299.2 0 (nI i + (1 : Int32))).bind fun v300 => (rcv 12 v299.2 95 (F_X12_missed n v299.2 95 v300)).bind fun v301 => if v299.1 = v301.1 then j12 v301.2 else some (.inr (.inr ((0 : Int32), v301.2)))) Q := by
  obtain ⟨K, R, S, tw, en, sd, W, V, P, N, H, rfl, hLy, hI, hG, hz, hlo⟩ := hM
  have hL := hLy.1
  have rd0 := RdOk.of hLy hlo
  obtain ⟨v, S1, S2, e1, e2, hI2, d⟩ := q_missed hI hn (xs (i + 1))
  have f1 := E_X11_missed_ok hn hL e1
  have f2 := E_X12_missed_ok hn hL e2
  have rd1 := rd0.mono (C_X11_missed f1).1
  refine x_rd (k := 1) rd0 rfl (by decide) hi hL31 ?_
  refine x_c (kd_8 hL) (Nat.le_refl _) f1 ?_
  refine x_rd (k := 1) rd1 rfl (by decide) hi hL31 ?_
  refine x_c (kd_95 hL) (by decide) f2 ?_
  refine Ok.ifT rfl (hj _ ?_)
  exact li_q hG hz hlo hLy hI2 d
theorem cs_30 {M : AM} {j12 : AM → Option ZL} {Q : ZL → Prop} (hn : 30000 ≤ n) (hi : i + 7 ≤ L) (hL31 : L < 2 ^ 31) (hM : LI L xs M) (hj : ∀ M, LI L xs M → Ok (j12 M) Q) : Ok ((rcv 11 M 8 (F_X11_harm n M 8)).bind fun v304 => (rcv 12 v304.2 95 (F_X12_harm n v304.2 95)).bind fun v305 => if v304.1 = v305.1 then j12 v305.2 else some (.inr (.inr ((0 : Int32), v305.2)))) Q := by
  obtain ⟨K, R, S, tw, en, sd, W, V, P, N, H, rfl, hLy, hI, hG, hz, hlo⟩ := hM
  have hL := hLy.1
  have rd0 := RdOk.of hLy hlo
  obtain ⟨v, S1, S2, e1, e2, hI2, d⟩ := q_harm hI hn 
  have f1 := E_X11_harm_ok hn hL e1
  have f2 := E_X12_harm_ok hn hL e2
  refine x_c (kd_8 hL) (Nat.le_refl _) f1 ?_
  refine x_c (kd_95 hL) (by decide) f2 ?_
  refine Ok.ifT rfl (hj _ ?_)
  exact li_q hG hz hlo hLy hI2 d
theorem cs_31 {M : AM} {j12 : AM → Option ZL} {Q : ZL → Prop} (hn : 30000 ≤ n) (hi : i + 7 ≤ L) (hL31 : L < 2 ^ 31) (hM : LI L xs M) (hj : ∀ M, LI L xs M → Ok (j12 M) Q) : Ok ((rdI M 0 (nI i + (1 : Int32))).bind fun v308 => (rcv 11 M 8 (F_X11_can n M 8 v308)).bind fun v309 => (rdI v309.2 0 (nI i + (1 : Int32))).bind fun v310 => (rcv 12 v309.2 95 (F_X12_can n v309.2 95 v310)).bind fun v311 => if v309.1 = v311.1 then j12 v311.2 else some (.inr (.inr ((0 : Int32), v311.2)))) Q := by
  obtain ⟨K, R, S, tw, en, sd, W, V, P, N, H, rfl, hLy, hI, hG, hz, hlo⟩ := hM
  have hL := hLy.1
  have rd0 := RdOk.of hLy hlo
  obtain ⟨v, S1, S2, e1, e2, hI2, d⟩ := q_can hI hn (xs (i + 1))
  have f1 := E_X11_can_ok hn hL e1
  have f2 := E_X12_can_ok hn hL e2
  have rd1 := rd0.mono (C_X11_can f1).1
  refine x_rd (k := 1) rd0 rfl (by decide) hi hL31 ?_
  refine x_c (kd_8 hL) (Nat.le_refl _) f1 ?_
  refine x_rd (k := 1) rd1 rfl (by decide) hi hL31 ?_
  refine x_c (kd_95 hL) (by decide) f2 ?_
  refine Ok.ifT rfl (hj _ ?_)
  exact li_q hG hz hlo hLy hI2 d
theorem cs_32 {M : AM} {j12 : AM → Option ZL} {Q : ZL → Prop} (hn : 30000 ≤ n) (hi : i + 7 ≤ L) (hL31 : L < 2 ^ 31) (hM : LI L xs M) (hj : ∀ M, LI L xs M → Ok (j12 M) Q) : Ok ((rdI M 0 (nI i + (1 : Int32))).bind fun v314 => (rdI M 0 (nI i + (2 : Int32))).bind fun v315 => (rcv 11 M 8 (F_X11_task n M 8 v314 v315)).bind fun v316 => (rdI v316.2 0 (nI i + (1 : Int32))).bind fun v317 => (rdI v316.2 0 (nI i + (2 : Int32))).bind fun v318 => (rcv 12 v316.2 95 (F_X12_task n v316.2 95 v317 v318)).bind fun v319 => if v316.1 = v319.1 then j12 v319.2 else some (.inr (.inr ((0 : Int32), v319.2)))) Q := by
  obtain ⟨K, R, S, tw, en, sd, W, V, P, N, H, rfl, hLy, hI, hG, hz, hlo⟩ := hM
  have hL := hLy.1
  have rd0 := RdOk.of hLy hlo
  obtain ⟨v, S1, S2, e1, e2, hI2, d⟩ := q_task hI hn (xs (i + 1)) (xs (i + 2))
  have f1 := E_X11_task_ok hn hL e1
  have f2 := E_X12_task_ok hn hL e2
  have rd1 := rd0.mono (C_X11_task f1).1
  refine x_rd (k := 1) rd0 rfl (by decide) hi hL31 ?_
  refine x_rd (k := 2) rd0 rfl (by decide) hi hL31 ?_
  refine x_c (kd_8 hL) (Nat.le_refl _) f1 ?_
  refine x_rd (k := 1) rd1 rfl (by decide) hi hL31 ?_
  refine x_rd (k := 2) rd1 rfl (by decide) hi hL31 ?_
  refine x_c (kd_95 hL) (by decide) f2 ?_
  refine Ok.ifT rfl (hj _ ?_)
  exact li_q hG hz hlo hLy hI2 d
theorem cs_33 {M : AM} {j12 : AM → Option ZL} {Q : ZL → Prop} (hn : 30000 ≤ n) (hi : i + 7 ≤ L) (hL31 : L < 2 ^ 31) (hM : LI L xs M) (hj : ∀ M, LI L xs M → Ok (j12 M) Q) : Ok ((rdI M 0 (nI i + (1 : Int32))).bind fun v322 => (rdI M 0 (nI i + (2 : Int32))).bind fun v323 => (rcv 11 M 8 (F_X11_rank n M 8 v322 v323)).bind fun v324 => (rdI v324.2 0 (nI i + (1 : Int32))).bind fun v325 => (rdI v324.2 0 (nI i + (2 : Int32))).bind fun v326 => (rcv 12 v324.2 95 (F_X12_rank n v324.2 95 v325 v326)).bind fun v327 => if v324.1 = v327.1 then j12 v327.2 else some (.inr (.inr ((0 : Int32), v327.2)))) Q := by
  obtain ⟨K, R, S, tw, en, sd, W, V, P, N, H, rfl, hLy, hI, hG, hz, hlo⟩ := hM
  have hL := hLy.1
  have rd0 := RdOk.of hLy hlo
  obtain ⟨v, S1, S2, e1, e2, hI2, d⟩ := q_rank hI hn (xs (i + 1)) (xs (i + 2))
  have f1 := E_X11_rank_ok hn hL e1
  have f2 := E_X12_rank_ok hn hL e2
  have rd1 := rd0.mono (C_X11_rank f1).1
  refine x_rd (k := 1) rd0 rfl (by decide) hi hL31 ?_
  refine x_rd (k := 2) rd0 rfl (by decide) hi hL31 ?_
  refine x_c (kd_8 hL) (Nat.le_refl _) f1 ?_
  refine x_rd (k := 1) rd1 rfl (by decide) hi hL31 ?_
  refine x_rd (k := 2) rd1 rfl (by decide) hi hL31 ?_
  refine x_c (kd_95 hL) (by decide) f2 ?_
  refine Ok.ifT rfl (hj _ ?_)
  exact li_q hG hz hlo hLy hI2 d
theorem cs_34 {M : AM} {j12 : AM → Option ZL} {Q : ZL → Prop} (hn : 30000 ≤ n) (hi : i + 7 ≤ L) (hL31 : L < 2 ^ 31) (hM : LI L xs M) (hj : ∀ M, LI L xs M → Ok (j12 M) Q) : Ok ((rdI M 0 (nI i + (1 : Int32))).bind fun v330 => (rdI M 0 (nI i + (2 : Int32))).bind fun v331 => (rdI M 0 (nI i + (3 : Int32))).bind fun v332 => (rcv 11 M 8 (F_X11_share n M 8 v330 v331 v332)).bind fun v333 => (rdI v333.2 0 (nI i + (1 : Int32))).bind fun v334 => (rdI v333.2 0 (nI i + (2 : Int32))).bind fun v335 => (rdI v333.2 0 (nI i + (3 : Int32))).bind fun v336 => (rcv 12 v333.2 95 (F_X12_share n v333.2 95 v334 v335 v336)).bind fun v337 => if v333.1 = v337.1 then j12 v337.2 else some (.inr (.inr ((0 : Int32), v337.2)))) Q := by
  obtain ⟨K, R, S, tw, en, sd, W, V, P, N, H, rfl, hLy, hI, hG, hz, hlo⟩ := hM
  have hL := hLy.1
  have rd0 := RdOk.of hLy hlo
  obtain ⟨v, S1, S2, e1, e2, hI2, d⟩ := q_share hI hn (xs (i + 1)) (xs (i + 2)) (xs (i + 3))
  have f1 := E_X11_share_ok hn hL e1
  have f2 := E_X12_share_ok hn hL e2
  have rd1 := rd0.mono (C_X11_share f1).1
  refine x_rd (k := 1) rd0 rfl (by decide) hi hL31 ?_
  refine x_rd (k := 2) rd0 rfl (by decide) hi hL31 ?_
  refine x_rd (k := 3) rd0 rfl (by decide) hi hL31 ?_
  refine x_c (kd_8 hL) (Nat.le_refl _) f1 ?_
  refine x_rd (k := 1) rd1 rfl (by decide) hi hL31 ?_
  refine x_rd (k := 2) rd1 rfl (by decide) hi hL31 ?_
  refine x_rd (k := 3) rd1 rfl (by decide) hi hL31 ?_
  refine x_c (kd_95 hL) (by decide) f2 ?_
  refine Ok.ifT rfl (hj _ ?_)
  exact li_q hG hz hlo hLy hI2 d
theorem cs_35 {M : AM} {j12 : AM → Option ZL} {Q : ZL → Prop} (hn : 30000 ≤ n) (hi : i + 7 ≤ L) (hL31 : L < 2 ^ 31) (hM : LI L xs M) (hj : ∀ M, LI L xs M → Ok (j12 M) Q) : Ok ((rdI M 0 (nI i + (1 : Int32))).bind fun v340 => (rcv 11 M 8 (F_X11_rule n M 8 v340)).bind fun v341 => (rdI v341.2 0 (nI i + (1 : Int32))).bind fun v342 => (rcv 12 v341.2 95 (F_X12_rule n v341.2 95 v342)).bind fun v343 => if v341.1 = v343.1 then j12 v343.2 else some (.inr (.inr ((0 : Int32), v343.2)))) Q := by
  obtain ⟨K, R, S, tw, en, sd, W, V, P, N, H, rfl, hLy, hI, hG, hz, hlo⟩ := hM
  have hL := hLy.1
  have rd0 := RdOk.of hLy hlo
  obtain ⟨v, S1, S2, e1, e2, hI2, d⟩ := q_rule hI hn (xs (i + 1))
  have f1 := E_X11_rule_ok hn hL e1
  have f2 := E_X12_rule_ok hn hL e2
  have rd1 := rd0.mono (C_X11_rule f1).1
  refine x_rd (k := 1) rd0 rfl (by decide) hi hL31 ?_
  refine x_c (kd_8 hL) (Nat.le_refl _) f1 ?_
  refine x_rd (k := 1) rd1 rfl (by decide) hi hL31 ?_
  refine x_c (kd_95 hL) (by decide) f2 ?_
  refine Ok.ifT rfl (hj _ ?_)
  exact li_q hG hz hlo hLy hI2 d
theorem cs_36 {M : AM} {j12 : AM → Option ZL} {Q : ZL → Prop} (hn : 30000 ≤ n) (hi : i + 7 ≤ L) (hL31 : L < 2 ^ 31) (hM : LI L xs M) (hj : ∀ M, LI L xs M → Ok (j12 M) Q) : Ok ((rdI M 0 (nI i + (1 : Int32))).bind fun v346 => (rdI M 0 (nI i + (2 : Int32))).bind fun v347 => (rcv 11 M 8 (F_X11_ruled n M 8 v346 v347)).bind fun v348 => (rdI v348.2 0 (nI i + (1 : Int32))).bind fun v349 => (rdI v348.2 0 (nI i + (2 : Int32))).bind fun v350 => (rcv 12 v348.2 95 (F_X12_ruled n v348.2 95 v349 v350)).bind fun v351 => if v348.1 = v351.1 then j12 v351.2 else some (.inr (.inr ((0 : Int32), v351.2)))) Q := by
  obtain ⟨K, R, S, tw, en, sd, W, V, P, N, H, rfl, hLy, hI, hG, hz, hlo⟩ := hM
  have hL := hLy.1
  have rd0 := RdOk.of hLy hlo
  obtain ⟨v, S1, S2, e1, e2, hI2, d⟩ := q_ruled hI hn (xs (i + 1)) (xs (i + 2))
  have f1 := E_X11_ruled_ok hn hL e1
  have f2 := E_X12_ruled_ok hn hL e2
  have rd1 := rd0.mono (C_X11_ruled f1).1
  refine x_rd (k := 1) rd0 rfl (by decide) hi hL31 ?_
  refine x_rd (k := 2) rd0 rfl (by decide) hi hL31 ?_
  refine x_c (kd_8 hL) (Nat.le_refl _) f1 ?_
  refine x_rd (k := 1) rd1 rfl (by decide) hi hL31 ?_
  refine x_rd (k := 2) rd1 rfl (by decide) hi hL31 ?_
  refine x_c (kd_95 hL) (by decide) f2 ?_
  refine Ok.ifT rfl (hj _ ?_)
  exact li_q hG hz hlo hLy hI2 d
theorem cs_37 {M : AM} {j12 : AM → Option ZL} {Q : ZL → Prop} (hn : 30000 ≤ n) (hi : i + 7 ≤ L) (hL31 : L < 2 ^ 31) (hM : LI L xs M) (hj : ∀ M, LI L xs M → Ok (j12 M) Q) : Ok ((rdI M 0 (nI i + (1 : Int32))).bind fun v354 => (rdI M 0 (nI i + (2 : Int32))).bind fun v355 => (rdI M 0 (nI i + (3 : Int32))).bind fun v356 => (rcv 11 M 8 (F_X11_day n M 8 v354 v355 v356)).bind fun v357 => (rdI v357.2 0 (nI i + (1 : Int32))).bind fun v358 => (rdI v357.2 0 (nI i + (2 : Int32))).bind fun v359 => (rdI v357.2 0 (nI i + (3 : Int32))).bind fun v360 => (rcv 12 v357.2 95 (F_X12_day n v357.2 95 v358 v359 v360)).bind fun v361 => if v357.1 = v361.1 then j12 v361.2 else some (.inr (.inr ((0 : Int32), v361.2)))) Q := by
  obtain ⟨K, R, S, tw, en, sd, W, V, P, N, H, rfl, hLy, hI, hG, hz, hlo⟩ := hM
  have hL := hLy.1
  have rd0 := RdOk.of hLy hlo
  obtain ⟨v, S1, S2, e1, e2, hI2, d⟩ := q_day hI hn (xs (i + 1)) (xs (i + 2)) (xs (i + 3))
  have f1 := E_X11_day_ok hn hL e1
  have f2 := E_X12_day_ok hn hL e2
  have rd1 := rd0.mono (C_X11_day f1).1
  refine x_rd (k := 1) rd0 rfl (by decide) hi hL31 ?_
  refine x_rd (k := 2) rd0 rfl (by decide) hi hL31 ?_
  refine x_rd (k := 3) rd0 rfl (by decide) hi hL31 ?_
  refine x_c (kd_8 hL) (Nat.le_refl _) f1 ?_
  refine x_rd (k := 1) rd1 rfl (by decide) hi hL31 ?_
  refine x_rd (k := 2) rd1 rfl (by decide) hi hL31 ?_
  refine x_rd (k := 3) rd1 rfl (by decide) hi hL31 ?_
  refine x_c (kd_95 hL) (by decide) f2 ?_
  refine Ok.ifT rfl (hj _ ?_)
  exact li_q hG hz hlo hLy hI2 d
theorem cs_38 {M : AM} {j12 : AM → Option ZL} {Q : ZL → Prop} (hn : 30000 ≤ n) (hi : i + 7 ≤ L) (hL31 : L < 2 ^ 31) (hM : LI L xs M) (hj : ∀ M, LI L xs M → Ok (j12 M) Q) : Ok ((rdI M 0 (nI i + (1 : Int32))).bind fun v364 => (rdI M 0 (nI i + (2 : Int32))).bind fun v365 => (rdI M 0 (nI i + (3 : Int32))).bind fun v366 => (rdI M 0 (nI i + (4 : Int32))).bind fun v367 => (rcv 11 M 8 (F_X11_kept n M 8 v364 v365 v366 v367)).bind fun v368 => (rdI v368.2 0 (nI i + (1 : Int32))).bind fun v369 => (rdI v368.2 0 (nI i + (2 : Int32))).bind fun v370 => (rdI v368.2 0 (nI i + (3 : Int32))).bind fun v371 => (rdI v368.2 0 (nI i + (4 : Int32))).bind fun v372 => (rcv 12 v368.2 95 (F_X12_kept n v368.2 95 v369 v370 v371 v372)).bind fun v373 => if v368.1 = v373.1 then j12 v373.2 else some (.inr (.inr ((0 : Int32), v373.2)))) Q := by
  obtain ⟨K, R, S, tw, en, sd, W, V, P, N, H, rfl, hLy, hI, hG, hz, hlo⟩ := hM
  have hL := hLy.1
  have rd0 := RdOk.of hLy hlo
  obtain ⟨v, S1, S2, e1, e2, hI2, d⟩ := q_kept hI hn (xs (i + 1)) (xs (i + 2)) (xs (i + 3)) (xs (i + 4))
  have f1 := E_X11_kept_ok hn hL e1
  have f2 := E_X12_kept_ok hn hL e2
  have rd1 := rd0.mono (C_X11_kept f1).1
  refine x_rd (k := 1) rd0 rfl (by decide) hi hL31 ?_
  refine x_rd (k := 2) rd0 rfl (by decide) hi hL31 ?_
  refine x_rd (k := 3) rd0 rfl (by decide) hi hL31 ?_
  refine x_rd (k := 4) rd0 rfl (by decide) hi hL31 ?_
  refine x_c (kd_8 hL) (Nat.le_refl _) f1 ?_
  refine x_rd (k := 1) rd1 rfl (by decide) hi hL31 ?_
  refine x_rd (k := 2) rd1 rfl (by decide) hi hL31 ?_
  refine x_rd (k := 3) rd1 rfl (by decide) hi hL31 ?_
  refine x_rd (k := 4) rd1 rfl (by decide) hi hL31 ?_
  refine x_c (kd_95 hL) (by decide) f2 ?_
  refine Ok.ifT rfl (hj _ ?_)
  exact li_q hG hz hlo hLy hI2 d
theorem cs_39 {M : AM} {j12 : AM → Option ZL} {Q : ZL → Prop} (hn : 30000 ≤ n) (hi : i + 7 ≤ L) (hL31 : L < 2 ^ 31) (hM : LI L xs M) (hj : ∀ M, LI L xs M → Ok (j12 M) Q) : Ok ((rdI M 0 (nI i + (1 : Int32))).bind fun v376 => (rcv 11 M 8 (F_X11_hold n M 8 v376)).bind fun v377 => (rdI v377.2 0 (nI i + (1 : Int32))).bind fun v378 => (rcv 12 v377.2 95 (F_X12_hold n v377.2 95 v378)).bind fun v379 => if v377.1 = v379.1 then j12 v379.2 else some (.inr (.inr ((0 : Int32), v379.2)))) Q := by
  obtain ⟨K, R, S, tw, en, sd, W, V, P, N, H, rfl, hLy, hI, hG, hz, hlo⟩ := hM
  have hL := hLy.1
  have rd0 := RdOk.of hLy hlo
  obtain ⟨v, S1, S2, P', N', H', e1, e2, hI2, d⟩ := q_hold hI hn (xs (i + 1))
  have f1 := E_X11_hold_ok hn hL e1
  have f2 := E_X12_hold_ok hn hL e2
  have rd1 := rd0.mono (C_X11_hold f1).1
  refine x_rd (k := 1) rd0 rfl (by decide) hi hL31 ?_
  refine x_c (kd_8 hL) (Nat.le_refl _) f1 ?_
  refine x_rd (k := 1) rd1 rfl (by decide) hi hL31 ?_
  refine x_c (kd_95 hL) (by decide) f2 ?_
  refine Ok.ifT rfl (hj _ ?_)
  exact li_q hG hz hlo hLy hI2 d
theorem cs_40 {M : AM} {j12 : AM → Option ZL} {Q : ZL → Prop} (hn : 30000 ≤ n) (hi : i + 7 ≤ L) (hL31 : L < 2 ^ 31) (hM : LI L xs M) (hj : ∀ M, LI L xs M → Ok (j12 M) Q) : Ok ((rdI M 0 (nI i + (1 : Int32))).bind fun v382 => (rcv 11 M 8 (F_X11_restore n M 8 v382)).bind fun v383 => (rdI v383.2 0 (nI i + (1 : Int32))).bind fun v384 => (rcv 12 v383.2 95 (F_X12_restore n v383.2 95 v384)).bind fun v385 => if v383.1 = v385.1 then j12 v385.2 else some (.inr (.inr ((0 : Int32), v385.2)))) Q := by
  obtain ⟨K, R, S, tw, en, sd, W, V, P, N, H, rfl, hLy, hI, hG, hz, hlo⟩ := hM
  have hL := hLy.1
  have rd0 := RdOk.of hLy hlo
  obtain ⟨v, S1, S2, P', N', H', e1, e2, hI2, d⟩ := q_restore hI hn (xs (i + 1))
  have f1 := E_X11_restore_ok hn hL e1
  have f2 := E_X12_restore_ok hn hL e2
  have rd1 := rd0.mono (C_X11_restore f1).1
  refine x_rd (k := 1) rd0 rfl (by decide) hi hL31 ?_
  refine x_c (kd_8 hL) (Nat.le_refl _) f1 ?_
  refine x_rd (k := 1) rd1 rfl (by decide) hi hL31 ?_
  refine x_c (kd_95 hL) (by decide) f2 ?_
  refine Ok.ifT rfl (hj _ ?_)
  exact li_q hG hz hlo hLy hI2 d
theorem cs_41 {M : AM} {j12 : AM → Option ZL} {Q : ZL → Prop} (hn : 30000 ≤ n) (hi : i + 7 ≤ L) (hL31 : L < 2 ^ 31) (hM : LI L xs M) (hj : ∀ M, LI L xs M → Ok (j12 M) Q) : Ok ((rdI M 0 (nI i + (1 : Int32))).bind fun v388 => (rcv 11 M 8 (F_X11_count n M 8 v388)).bind fun v389 => (rdI M 0 (nI i + (1 : Int32))).bind fun v390 => (rcv 12 M 95 (F_X12_count n M 95 v390)).bind fun v391 => if v389 = v391 then j12 M else some (.inr (.inr ((0 : Int32), M)))) Q := by
  obtain ⟨K, R, S, tw, en, sd, W, V, P, N, H, rfl, hLy, hI, hG, hz, hlo⟩ := hM
  have hL := hLy.1
  have rd0 := RdOk.of hLy hlo
  have hT0 : ∀ k, k < 10 → S.1 4 k = nI (cntN k) := fun k hk => (hlo 4 k (by decide)).trans (Ct_s k hk)
  have hTT : S.1 8 1 = S.1 95 2 := by
    obtain ⟨T, _, t1, t2, _⟩ := hG.2.2.2.1
    rw [t1, t2]
  obtain ⟨v, e1, e2⟩ := q_count hI hn hT0 hTT (xs (i + 1))
  have f1 := E_X11_count_ok hn hL e1
  have f2 := E_X12_count_ok hn hL e2
  refine x_rd (k := 1) rd0 rfl (by decide) hi hL31 ?_
  refine x_c (kd_8 hL) (Nat.le_refl _) f1 ?_
  refine x_rd (k := 1) rd0 rfl (by decide) hi hL31 ?_
  refine x_c (kd_95 hL) (by decide) f2 ?_
  refine Ok.ifT rfl (hj _ ?_)
  exact ⟨K, R, S, tw, en, sd, W, V, P, N, H, rfl, hLy, hI, hG, hz, hlo⟩
end LAW
