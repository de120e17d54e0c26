/-! ===== the reference is told a law ===== -/
theorem Rch.cms {K V : Nat → Nat} {b0 : Nat} {q q' : CQ} (hQ : CQI K b0 q) (h : Rch K V q q') : cms q'.y ≤ cms q.y := by
  obtain ⟨n, h1, h2⟩ := h
  induction n generalizing q with
  | zero => have : q = q' := h1
            rw [this]; exact Nat.le_refl _
  | succ n ih =>
    obtain ⟨hQ', hm⟩ := hQ.st (V := V) (h2 0 (by omega))
    have := ih hQ' h1 (fun i hi => h2 (i + 1) (by omega))
    omega
theorem cst_and {K V : Nat → Nat} {q : CQ} {how : Nat} {l : CD} (hb : q.b = true) (hlf : q.lf = some (how, l)) (ho : opn q.s = 0) (hk : K q.y.2 = 14) : cst K V q = mkQ (tk K (K q.y.2) q.y) false false 0 none [] [] false (q.ls ++ [(q.orr, q.ng, how, l, q.o ++ opsC (relO 1 q.s))]) (q.E ++ (litS how q.ng l (q.o ++ opsC (relO 1 q.s)) ++ andS q.pA)) q.pO true := by
  rw [cst.eq_1, if_neg (by rw [hb]; decide), if_neg (by omega), if_neg (by omega), hlf]
  exact if_pos ⟨hk, ho⟩
theorem cst_or {K V : Nat → Nat} {q : CQ} {how : Nat} {l : CD} (hb : q.b = true) (hlf : q.lf = some (how, l)) (ho : opn q.s = 0) (hk : K q.y.2 = 13) : cst K V q = mkQ (tk K (K q.y.2) q.y) false false 0 none [] [] true (q.ls ++ [(q.orr, q.ng, how, l, q.o ++ opsC (relO 1 q.s))]) (q.E ++ (litS how q.ng l (q.o ++ opsC (relO 1 q.s)) ++ (andS q.pA ++ orS q.pO))) true false := by
  rw [cst.eq_1, if_neg (by rw [hb]; decide), if_neg (by omega), if_neg (by omega), hlf]
  exact (if_neg (by omega)).trans (if_pos ⟨hk, ho⟩)
theorem cst_end {K V : Nat → Nat} {q : CQ} {how : Nat} {l : CD} (hb : q.b = true) (hlf : q.lf = some (how, l)) (ho : opn q.s = 0) (hop : ¬ (24 ≤ K q.y.2 ∧ K q.y.2 ≤ 27)) (h1 : K q.y.2 ≠ 14) (h2 : K q.y.2 ≠ 13) : cst K V q = mkQ (1, q.y.2) q.b q.g q.ng q.lf q.o q.s q.orr q.ls q.E q.pO q.pA := by
  rw [cst.eq_1, if_neg (by rw [hb]; decide), if_neg (by omega), if_neg hop, hlf]
  exact (if_neg (fun z => h1 z.1)).trans (if_neg (fun z => h2 z.1))
theorem cfL_s {q : CQ} {how : Nat} {l : CD} (hlf : q.lf = some (how, l)) : cfL q = q.ls ++ [(q.orr, q.ng, how, l, q.o ++ opsC (relO 1 q.s))] := by
  unfold cfL; rw [hlf]
/-- cells that the telling of a law changes -/
def XLaw (ul uc r u lt cb a j : Nat) : Bool := XLt ul uc lt cb a j || (((a == 126 || a == 127) && j == r) || (a == 125 && j == u))
theorem XLt_Law {ul uc r u lt cb : Nat} {S S' : ST} (d : Df (XLt ul uc lt cb) S S') : Df (XLaw ul uc r u lt cb) S S' := d.mono (fun a j hx => by
  simp only [XLaw, Bool.or_eq_false_iff] at hx ⊢
  exact hx.1)
section RTL
variable {n L cb lt sd so m : Nat} {c : Nat → Nat} {S : ST}
theorem RTk.tl {ul uc r u : Nat} {S S' : ST} (h : RTk c L S) (d : Df (XLaw ul uc r u lt cb) S S') : RTk c L S' := h.d2 (D2.of (Y := YN) d) (fun a j h1 h2 => by
  simp only [XLaw, XLt, Bool.or_eq_false_iff, Bool.and_eq_false_iff, beq_eq_false_iff_ne, decide_eq_false_iff_not]
  omega) rfl
/-- a law's comparisons are there -/
def LwR (ls : List LT) (r lt cb : Nat) (S : ST) : Prop := S.1 126 r = nI lt ∧ S.1 127 r = nI (lt + ls.length) ∧ LitsR ls lt cb S
theorem r_tellLaw {y : Nat × Nat} (hn : 30000 ≤ n) (hT : RTk c L S) (hy : RY c L y S) (hw : yW (tkK c L) y) (h0 : y.1 = 0) (hk : tkK c L y.2 = 9 + so) (hso : so < 2) (hsd : sd < 2) (h19 : S.1 95 19 = nI sd) (hm : m ≤ 4) (h125 : S.1 125 (2 * sd + so) = nI m) (h12 : S.1 95 12 = 0) (h46 : S.1 95 46 = nI lt) (h53 : S.1 95 53 = nI cb) (hlt : 3 * lt ≤ 450 * sd + y.2) (hcb : cb ≤ 420 * sd + y.2) :
    Ok (E_X12_tellLaw n S (nI so)) (fun S' => ∃ q, Rch (tkK c L) (tkV c L) (cInit (tk (tkK c L) 12 (if m = 4 then (2, y.2) else tk (tkK c L) (9 + so) y))) q ∧ cdn (tkK c L) q ∧ (∃ b0, CQI (tkK c L) b0 q) ∧ RY c L (tk (tkK c L) 22 q.y) S' ∧ Df (XLaw (150 * sd + 150) (420 * sd + 420) (8 * sd + 4 * so + m) (2 * sd + so) lt cb) S S' ∧ ((tk (tkK c L) 22 q.y).1 = 0 → m < 4 ∧ S'.1 125 (2 * sd + so) = nI (m + 1) ∧ S'.1 95 12 = 0 ∧ S'.1 95 46 = nI (lt + (cfL q).length) ∧ S'.1 95 53 = nI (cb + cdt (cfL q)) ∧ LwR (cfL q) (8 * sd + 4 * so + m) lt cb S' ∧ 3 * (cfL q).length + y.2 ≤ q.y.2 ∧ cdt (cfL q) + y.2 ≤ q.y.2)) := by
  have hms : ∀ y : Nat × Nat, cms y ≤ 401 := fun y => by unfold cms; split <;> omega
  have ei : ((2 : Int32) * (S.1 95 19)) + nI so = nI (2 * sd + so) := by rw [h19, show (2 : Int32) = nI 2 from rfl, nI_mulN, nI_add]
  unfold E_X12_tellLaw
  rw [ei]
  apply Ok.step (rd_nI (by omega) (by decide))
  rw [h125]
  apply Ok.jnU
  by_cases c4 : m = 4
  · refine Ok.ifT (by rw [c4]; rfl) ?_
    obtain ⟨S1, f1, d1, y1, _⟩ := r_fail (n := n) (f := 2) hT hy hw
    rw [if_pos h0] at y1
    apply Ok.step (show E_X12_fail n S (2 : Int32) = some S1 from f1)
    refine Ok.ifF (by rw [y1.1]; exact nI_nle (n := 2) (by decide) (by decide)) ?_
    have e1 : tk (tkK c L) 12 (if m = 4 then (2, y.2) else tk (tkK c L) (9 + so) y) = (2, y.2) := by rw [if_pos c4]; rfl
    have hw2 : yW (tkK c L) (2, y.2) := ⟨Nat.le_refl 2, hw.2⟩
    rw [e1]
    refine Ok.ret ⟨cInit (2, y.2), Rch.rf _, Or.inl (by intro z; cases z), ⟨_, CQI.init hw2⟩, y1, XLt_Law (XFl_Lt d1), fun z => absurd z (by intro z; cases z)⟩
  refine Ok.ifF (fun z => c4 ((nI_eq (b := 4) (by omega) (by decide)).mp z)) ?_
  rw [if_neg c4]
  refine Ok.ifT (by rw [hy.1, h0]; decide) ?_
  rw [ei]
  apply Ok.step (rd_nI (by omega) (by decide))
  rw [h125]
  apply Ok.letsU
  have ew : (((8 : Int32) * (S.1 95 19)) + ((4 : Int32) * nI so)) + nI m = nI (8 * sd + 4 * so + m) := by rw [h19, show (8 : Int32) = nI 8 from rfl, show (4 : Int32) = nI 4 from rfl, nI_mulN, nI_mulN, nI_add, nI_add]
  rw [ew]
  generalize er : 8 * sd + 4 * so + m = r at *
  have hr16 : r < 16 := by omega
  obtain ⟨S1, f1, d1, y1⟩ := r_goesOn (n := n) hT hy hw
  apply Ok.step f1
  rw [← tk_gy (K := tkK c L) (k := 9 + so) (fun _ => hk)] at y1
  have o1 : ∀ a j, (a ≠ 95 ∨ (j ≠ 11 ∧ j ≠ 13 ∧ j ≠ 14)) → S1.1 a j = S.1 a j := fun a j hj => d1.2 _ _ (by simp only [XFl, Bool.and_eq_false_iff, Bool.or_eq_false_iff, beq_eq_false_iff_ne]; omega)
  have hw1 : yW (tkK c L) (tk (tkK c L) (9 + so) y) := tk_w hw (by omega)
  rw [o1 95 46 (by omega), h46]
  apply Ok.step (wr_nI (by omega) (by decide))
  have x126 : XLaw (150 * sd + 150) (420 * sd + 420) r (2 * sd + so) lt cb 126 r = true := by simp [XLaw]
  have x127 : XLaw (150 * sd + 150) (420 * sd + 420) r (2 * sd + so) lt cb 127 r = true := by simp [XLaw]
  have x125 : XLaw (150 * sd + 150) (420 * sd + 420) r (2 * sd + so) lt cb 125 (2 * sd + so) = true := by simp [XLaw]
  have d1' : Df (XLaw (150 * sd + 150) (420 * sd + 420) r (2 * sd + so) lt cb) S (upI S1 126 r (nI lt)) := (XLt_Law (XFl_Lt d1)).up x126
  obtain ⟨S2, f2, d2, y2⟩ := r_must (n := n) (k := 12) (hT.tl d1') (y1.fr (fun j hj => by rw [upI_at, if_neg (by omega)])) hw1 (by decide)
  apply Ok.step (show E_X12_must n _ (32 : Int32) = some S2 from f2)
  have hw2 : yW (tkK c L) (tk (tkK c L) 12 (tk (tkK c L) (9 + so) y)) := tk_w hw1 (by decide)
  generalize ey2 : tk (tkK c L) 12 (tk (tkK c L) (9 + so) y) = Y2 at *
  have hyY : y.2 ≤ Y2.2 := by
    have a1 : ∀ k (z : Nat × Nat), z.2 ≤ (tk (tkK c L) k z).2 := fun k z => by
      unfold tk
      repeat' split
      all_goals first | exact Nat.le_refl _ | exact Nat.le_succ _
    rw [← ey2]
    exact Nat.le_trans (a1 _ _) (a1 _ _)
  have d2' : Df (XLaw (150 * sd + 150) (420 * sd + 420) r (2 * sd + so) lt cb) S S2 := d1'.trans (XLt_Law (XFl_Lt d2))
  have o2 : ∀ a j, (a ≠ 95 ∨ (j ≠ 11 ∧ j ≠ 13 ∧ j ≠ 14)) → (a ≠ 126 ∨ j ≠ r) → S2.1 a j = S.1 a j := fun a j hj h2 => by
    rw [d2.2 _ _ (by simp only [XFl, Bool.and_eq_false_iff, Bool.or_eq_false_iff, beq_eq_false_iff_ne]; omega), upI_at, if_neg (by omega), o1 _ _ hj]
  have e126 : S2.1 126 r = nI lt := by rw [d2.2 _ _ rfl, upI_at, if_pos ⟨rfl, rfl⟩]
  apply Ok.jnU
  -- what the loop leaves
  have endp : ∀ (q : CQ) (S3 : ST), Rch (tkK c L) (tkV c L) (cInit Y2) q → CQI (tkK c L) Y2.2 q → RY c L q.y S3 → Df (XLt (150 * sd + 150) (420 * sd + 420) lt cb) S2 S3 → (q.y.1 = 0 → q.b = true ∧ opn q.s = 0 ∧ ¬ (24 ≤ tkK c L q.y.2 ∧ tkK c L q.y.2 ≤ 27) ∧ tkK c L q.y.2 ≠ 14 ∧ tkK c L q.y.2 ≠ 13 ∧ q.lf ≠ none ∧ S3.1 95 12 = 0 ∧ S3.1 95 46 = nI (lt + (cfL q).length) ∧ S3.1 95 53 = nI (cb + cdt (cfL q)) ∧ LitsR (cfL q) lt cb S3) →
      Ok ((wr S3 127 16 (nI r) (S3.1 95 46)).bind fun S27 => (E_X12_must n S27 (4 : Int32)).bind fun S29 => if (S29.1 95 13) = 0 then (rd (S29.1 125) 4 (((2 : Int32) * (S29.1 95 19)) + nI so)).bind fun v31 => (wr S29 125 4 (((2 : Int32) * (S29.1 95 19)) + nI so) (v31 + (1 : Int32))).bind fun S32 => some S32 else some S29)
        (fun S' => ∃ q, Rch (tkK c L) (tkV c L) (cInit Y2) q ∧ cdn (tkK c L) q ∧ (∃ b0, CQI (tkK c L) b0 q) ∧ RY c L (tk (tkK c L) 22 q.y) S' ∧ Df (XLaw (150 * sd + 150) (420 * sd + 420) r (2 * sd + so) lt cb) S S' ∧ ((tk (tkK c L) 22 q.y).1 = 0 → m < 4 ∧ S'.1 125 (2 * sd + so) = nI (m + 1) ∧ S'.1 95 12 = 0 ∧ S'.1 95 46 = nI (lt + (cfL q).length) ∧ S'.1 95 53 = nI (cb + cdt (cfL q)) ∧ LwR (cfL q) r lt cb S' ∧ 3 * (cfL q).length + y.2 ≤ q.y.2 ∧ cdt (cfL q) + y.2 ≤ q.y.2)) := fun q S3 hr hQ hy3 d3 hok => by
    apply Ok.step (wr_nI (by omega) (by decide))
    have d3' : Df (XLaw (150 * sd + 150) (420 * sd + 420) r (2 * sd + so) lt cb) S (upI S3 127 r (S3.1 95 46)) := (d2'.trans (XLt_Law d3)).up x127
    have hw3 := hQ.1
    obtain ⟨S4, f4, d4, y4⟩ := r_must (n := n) (k := 22) (hT.tl d3') (hy3.fr (fun j hj => by rw [upI_at, if_neg (by omega)])) hw3 (by decide)
    apply Ok.step (show E_X12_must n _ (4 : Int32) = some S4 from f4)
    have d4' : Df (XLaw (150 * sd + 150) (420 * sd + 420) r (2 * sd + so) lt cb) S S4 := d3'.trans (XLt_Law (XFl_Lt d4))
    have o4 : ∀ a j, (a ≠ 95 ∨ (j ≠ 11 ∧ j ≠ 13 ∧ j ≠ 14)) → (a ≠ 127 ∨ j ≠ r) → S4.1 a j = S3.1 a j := fun a j hj h2 => by
      rw [d4.2 _ _ (by simp only [XFl, Bool.and_eq_false_iff, Bool.or_eq_false_iff, beq_eq_false_iff_ne]; omega), upI_at, if_neg (by omega)]
    have hw4 : yW (tkK c L) (tk (tkK c L) 22 q.y) := tk_w hw3 (by decide)
    by_cases g0 : (tk (tkK c L) 22 q.y).1 = 0
    case neg =>
      refine Ok.ifF (fun z => g0 ?_) ?_
      · rw [y4.1] at z
        have := hw4.1
        exact (nI_eq (b := 0) (by omega) (by decide)).mp z
      by_cases q0 : q.y.1 = 0
      · obtain ⟨k1, k2, k3, k4, k5, k6, k7⟩ := hok q0
        by_cases k22 : tkK c L q.y.2 = 22
        · exact Ok.ret ⟨q, hr, Or.inr ⟨k22, k1, k2, k6⟩, ⟨_, hQ⟩, y4, d4', fun z => absurd z g0⟩
        · have nd := ncdn_k (K := tkK c L) q0 k22
          cases hlf : q.lf with
          | none => exact absurd hlf k6
          | some x =>
            obtain ⟨how, l⟩ := x
            have ecs := cst_end (K := tkK c L) (V := tkV c L) k1 hlf k2 k3 k4 k5
            obtain ⟨hQ', _⟩ := hQ.st (V := tkV c L) nd
            have ey : tk (tkK c L) 22 (cst (tkK c L) (tkV c L) q).y = tk (tkK c L) 22 q.y := by
              rw [ecs, tk_n q0 k22]; rfl
            refine Ok.ret ⟨cst (tkK c L) (tkV c L) q, hr.tr (Rch.one nd), Or.inl (by rw [ecs]; exact Nat.one_ne_zero), ⟨_, hQ'⟩, by rw [ey]; exact y4, d4', fun z => absurd (by rw [ey] at z; exact z) g0⟩
      · exact Ok.ret ⟨q, hr, Or.inl q0, ⟨_, hQ⟩, y4, d4', fun z => absurd z g0⟩
    have q0 : q.y.1 = 0 := by
      rcases Nat.eq_zero_or_pos q.y.1 with z | z
      · exact z
      · rw [tk_f (by omega)] at g0; exact g0
    have k22 : tkK c L q.y.2 = 22 := by
      rcases Nat.decEq (tkK c L q.y.2) 22 with z | z
      · rw [tk_n q0 z] at g0; cases g0
      · exact z
    obtain ⟨k1, k2, k3, k4, k5, k6, k7, k8, k9, k10⟩ := hok q0
    refine Ok.ifT (by rw [y4.1, g0]; rfl) ?_
    have e19 : S4.1 95 19 = nI sd := by rw [d4'.2 _ _ rfl]; exact h19
    have ei4 : ((2 : Int32) * (S4.1 95 19)) + nI so = nI (2 * sd + so) := by rw [e19, show (2 : Int32) = nI 2 from rfl, nI_mulN, nI_add]
    have e125 : S4.1 125 (2 * sd + so) = nI m := by
      rw [o4 _ _ (by omega) (by omega), d3.2 _ _ rfl, o2 _ _ (by omega) (by omega)]; exact h125
    rw [ei4]
    apply Ok.step (rd_nI (by omega) (by decide))
    apply Ok.step (wr_nI (by omega) (by decide))
    have hwN : wN q + Y2.2 ≤ q.y.2 + q.y.1 := hQ.2.2.2.2.1
    have htt : totQ q + Y2.2 ≤ q.y.2 + q.y.1 := hQ.2.2.2.1
    have hce : cdt q.ls ≤ q.E.length := hQ.2.2.2.2.2.1
    have hrl := rel_len 1 q.s
    have fin3 : 3 * (cfL q).length + y.2 ≤ q.y.2 ∧ cdt (cfL q) + y.2 ≤ q.y.2 := by
      cases hlf : q.lf with
      | none => exact absurd hlf k6
      | some x =>
        obtain ⟨how, l⟩ := x
        rw [cfL_s hlf, cdt_app, List.length_append]
        have e1 : wN q = 3 * q.ls.length + 2 + 1 := by rw [wN_q, hlf, k1, if_neg (by intro z; cases z), if_pos rfl]
        have e2 : totQ q = q.E.length + (l.length + 1) + q.o.length + q.s.length + q.ng + (if q.pA = true then 1 else 0) + (if q.pO = true then 1 else 0) := by rw [totQ_q, hlf]; rfl
        have e3 : cdt [(q.orr, q.ng, how, l, q.o ++ opsC (relO 1 q.s))] = l.length + (q.o ++ opsC (relO 1 q.s)).length + 0 := rfl
        rw [e3, List.length_append, opsC_len]
        simp only [List.length_cons, List.length_nil]
        omega
    refine Ok.ret ⟨q, hr, Or.inr ⟨k22, k1, k2, k6⟩, ⟨_, hQ⟩, y4.fr (fun j hj => by rw [upI_at, if_neg (by omega)]), d4'.up x125, fun _ => ⟨by omega, ?_, ?_, ?_, ?_, ⟨?_, ?_, ?_⟩, fin3⟩⟩
    · rw [upI_at, if_pos ⟨rfl, rfl⟩, e125, nI_1]
    · rw [upI_at, if_neg (by omega), o4 _ _ (by omega) (by omega)]; exact k7
    · rw [upI_at, if_neg (by omega), o4 _ _ (by omega) (by omega)]; exact k8
    · rw [upI_at, if_neg (by omega), o4 _ _ (by omega) (by omega)]; exact k9
    · rw [upI_at, if_neg (by omega), o4 _ _ (by omega) (by omega), d3.2 _ _ rfl]; exact e126
    · rw [upI_at, if_neg (by omega), d4.2 _ _ rfl, upI_at, if_pos ⟨rfl, rfl⟩]; exact k8
    · exact k10.fr (fun a j h1 h2 _ => by rw [upI_at, if_neg (by omega), o4 _ _ (by omega) (by omega)]) (fun a j h1 _ => by rw [upI_at, if_neg (by omega), o4 _ _ (by omega) (by omega)])
  have loop : ∀ u : Int32, (u = 1 ∨ (u = 0 ∧ Y2.1 ≠ 0)) → Ok ((iter (fun (s12 : Int32 × Int32 × ST) => if s12.2.1 = 0 then some (.inr s12.2.2) else if (s12.2.2.1 95 13) = 0 then (E_X12_literal n s12.2.2 s12.1).bind fun S16 => (E_X12_is n S16 (33 : Int32)).bind fun v17 => jn (fun (u18 : Int32) => if u18 = 0 then some (.inl (v17, u18, S16)) else (E_X12_goesOn n S16 ).bind fun S21 => some (.inl (v17, u18, S21))) fun j22 => jn (j22 (1 : Int32)) fun j23 => if v17 = 0 then (E_X12_is n S16 (34 : Int32)).bind fun v25 => if v25 = 0 then j22 (0 : Int32) else j23 else j23 else some (.inr s12.2.2)) n ((1 : Int32), u, S2)).bind fun (e12 : ST) => (wr e12 127 16 (nI r) (e12.1 95 46)).bind fun S27 => (E_X12_must n S27 (4 : Int32)).bind fun S29 => if (S29.1 95 13) = 0 then (rd (S29.1 125) 4 (((2 : Int32) * (S29.1 95 19)) + nI so)).bind fun v31 => (wr S29 125 4 (((2 : Int32) * (S29.1 95 19)) + nI so) (v31 + (1 : Int32))).bind fun S32 => some S32 else some S29)
        (fun S' => ∃ q, Rch (tkK c L) (tkV c L) (cInit Y2) q ∧ cdn (tkK c L) q ∧ (∃ b0, CQI (tkK c L) b0 q) ∧ RY c L (tk (tkK c L) 22 q.y) S' ∧ Df (XLaw (150 * sd + 150) (420 * sd + 420) r (2 * sd + so) lt cb) S S' ∧ ((tk (tkK c L) 22 q.y).1 = 0 → m < 4 ∧ S'.1 125 (2 * sd + so) = nI (m + 1) ∧ S'.1 95 12 = 0 ∧ S'.1 95 46 = nI (lt + (cfL q).length) ∧ S'.1 95 53 = nI (cb + cdt (cfL q)) ∧ LwR (cfL q) r lt cb S' ∧ 3 * (cfL q).length + y.2 ≤ q.y.2 ∧ cdt (cfL q) + y.2 ≤ q.y.2)) := fun u hu => by
    refine bindW (fun d (s : Int32 × Int32 × ST) => ∃ q, Rch (tkK c L) (tkV c L) (cInit Y2) q ∧ CQI (tkK c L) Y2.2 q ∧ RY c L q.y s.2.2 ∧ Df (XLt (150 * sd + 150) (420 * sd + 420) lt cb) S2 s.2.2 ∧ ((d = 1 + cms q.y ∧ s.2.1 = 1 ∧ (q.y.1 = 0 → LtB q ∧ s.1 = bI q.orr ∧ s.2.2.1 95 12 = 0 ∧ s.2.2.1 95 46 = nI (lt + q.ls.length) ∧ s.2.2.1 95 53 = nI (cb + cdt q.ls) ∧ LitsR q.ls lt cb s.2.2)) ∨ (d = 0 ∧ s.2.1 = 0 ∧ (q.y.1 = 0 → q.b = true ∧ opn q.s = 0 ∧ ¬ (24 ≤ tkK c L q.y.2 ∧ tkK c L q.y.2 ≤ 27) ∧ tkK c L q.y.2 ≠ 14 ∧ tkK c L q.y.2 ≠ 13 ∧ q.lf ≠ none ∧ s.2.2.1 95 12 = 0 ∧ s.2.2.1 95 46 = nI (lt + (cfL q).length) ∧ s.2.2.1 95 53 = nI (cb + cdt (cfL q)) ∧ LitsR (cfL q) lt cb s.2.2)))) (if u = 1 then 1 + cms Y2 else 0) (fun S3 => ∃ q, Rch (tkK c L) (tkV c L) (cInit Y2) q ∧ CQI (tkK c L) Y2.2 q ∧ RY c L q.y S3 ∧ Df (XLt (150 * sd + 150) (420 * sd + 420) lt cb) S2 S3 ∧ (q.y.1 = 0 → q.b = true ∧ opn q.s = 0 ∧ ¬ (24 ≤ tkK c L q.y.2 ∧ tkK c L q.y.2 ≤ 27) ∧ tkK c L q.y.2 ≠ 14 ∧ tkK c L q.y.2 ≠ 13 ∧ q.lf ≠ none ∧ S3.1 95 12 = 0 ∧ S3.1 95 46 = nI (lt + (cfL q).length) ∧ S3.1 95 53 = nI (cb + cdt (cfL q)) ∧ LitsR (cfL q) lt cb S3)) (by have := hms Y2; split <;> omega) ?_ ?_ (fun S3 h => by
        obtain ⟨q, h1, h2, h3, h4, h5⟩ := h
        exact endp q S3 h1 h2 h3 h4 h5)
    · refine ⟨cInit Y2, Rch.rf _, CQI.init hw2, y2, Df.refl _ _, ?_⟩
      rcases hu with hu | ⟨hu, hf⟩
      · left
        refine ⟨if_pos hu, hu, fun _ => ⟨⟨rfl, rfl, rfl, rfl, rfl, rfl⟩, rfl, ?_, ?_, ?_, trivial⟩⟩
        · rw [o2 _ _ (by omega) (by omega)]; exact h12
        · rw [o2 _ _ (by omega) (by omega)]; exact h46
        · rw [o2 _ _ (by omega) (by omega)]; exact h53
      · right
        exact ⟨if_neg (by rw [hu]; decide), hu, fun z => absurd z hf⟩
    · rintro d ⟨v1, v2, S3⟩ ⟨q, hr, hQ, hy3, d3, h⟩
      dsimp only at hy3 d3 h ⊢
      rcases h with ⟨rfl, rfl, hok⟩ | ⟨rfl, rfl, hok⟩
      case inr => exact Ok.ifT rfl (Ok.inr ⟨q, hr, hQ, hy3, d3, hok⟩)
      refine Ok.ifF (by decide) ?_
      by_cases q0 : q.y.1 = 0
      case neg =>
        refine Ok.ifF (fun z => q0 ?_) (Ok.inr ⟨q, hr, hQ, hy3, d3, fun z => absurd z q0⟩)
        rw [hy3.1] at z
        have := hQ.1.1
        exact (nI_eq (b := 0) (by omega) (by decide)).mp z
      refine Ok.ifT (by rw [hy3.1, q0]; rfl) ?_
      obtain ⟨hB, rfl, e12, e46, e53, hL⟩ := hok q0
      have hT3 : RTk c L S3 := hT.tl (d2'.trans (XLt_Law d3))
      have hwN : wN q + Y2.2 ≤ q.y.2 + q.y.1 := hQ.2.2.2.2.1
      have hq400 : q.y.2 ≤ 400 := hQ.1.2.1
      have e1 : 3 * q.ls.length ≤ wN q := by rw [wN_q]; omega
      obtain ⟨S4, f4, q4, hr4, hQ4, hy4, d4, hok4⟩ := r_literal (n := n) (lt := lt + q.ls.length) (cb := cb) (ul := 150 * sd + 150) (uc := 420 * sd + 420) hn hT3 hQ (by omega) (by omega) hy3 q0 hB e12 e53 e46 (by omega) (by omega)
      apply Ok.step f4
      have hr4' := hr.tr hr4
      have d4' : Df (XLt (150 * sd + 150) (420 * sd + 420) lt cb) S2 S4 := d3.trans (XLt.mono (by omega) (by omega) d4)
      have hT4 : RTk c L S4 := hT.tl (d2'.trans (XLt_Law d4'))
      have hw4 := hQ4.1
      have hc4 := hr4.cms hQ
      have i1 : E_X12_is n S4 (33 : Int32) = _ := r_is (n := n) (k := 13) hT4 hy4 hw4 (by decide)
      have i2 : E_X12_is n S4 (34 : Int32) = _ := r_is (n := n) (k := 14) hT4 hy4 hw4 (by decide)
      apply Ok.step i1
      apply Ok.jnU
      apply Ok.jnU
      -- the comparisons so far, with the newest
      have lits : q4.y.1 = 0 → ∃ how l, q4.lf = some (how, l) ∧ q4.b = true ∧ opn q4.s = 0 ∧ ¬ (24 ≤ tkK c L q4.y.2 ∧ tkK c L q4.y.2 ≤ 27) ∧ S4.1 95 12 = 0 ∧ S4.1 95 46 = nI (lt + (q4.ls ++ [(q4.orr, q4.ng, how, l, q4.o ++ opsC (relO 1 q4.s))]).length) ∧ S4.1 95 53 = nI (cb + cdt (q4.ls ++ [(q4.orr, q4.ng, how, l, q4.o ++ opsC (relO 1 q4.s))])) ∧ LitsR (q4.ls ++ [(q4.orr, q4.ng, how, l, q4.o ++ opsC (relO 1 q4.s))]) lt cb S4 := fun z => by
        obtain ⟨k1, k2, k3, k4, k5, k6, k7, how, l, k8, k9, k10⟩ := hok4 z
        refine ⟨how, l, k8, k1, k2, k3, k6, ?_, ?_, ?_⟩
        · rw [k7, k4, List.length_append]; rfl
        · rw [k9, k4, cdt_app]
          show nI (cb + cdt q.ls + (l.length + (q4.o ++ opsC (relO 1 q4.s)).length)) = nI (cb + (cdt q.ls + (l.length + (q4.o ++ opsC (relO 1 q4.s)).length + 0)))
          congr 1
          omega
        · rw [k4]
          refine LitsR.app (hL.fr (fun a j h1 h2 h3 => ?_) (fun a j h1 h2 => ?_)) ⟨k10, trivial⟩
          · refine d4.2 _ _ ?_
            simp only [XLt, Bool.or_eq_false_iff, Bool.and_eq_false_iff, beq_eq_false_iff_ne, decide_eq_false_iff_not]
            omega
          · refine d4.2 _ _ ?_
            simp only [XLt, Bool.or_eq_false_iff, Bool.and_eq_false_iff, beq_eq_false_iff_ne, decide_eq_false_iff_not]
            omega
      -- a connective
      have more : ∀ (v : Int32) (b : Bool), v = bI b → q4.y.1 = 0 → (tkK c L q4.y.2 = if b = true then 13 else 14) → Ok (if (1 : Int32) = 0 then (some (.inl (v, (1 : Int32), S4)) : Option ((Int32 × Int32 × ST) ⊕ ST)) else (E_X12_goesOn n S4 ).bind fun S21 => some (.inl (v, (1 : Int32), S21))) (Sum.elim (fun s => ∃ d', d' < 1 + cms q.y ∧ ∃ q, Rch (tkK c L) (tkV c L) (cInit Y2) q ∧ CQI (tkK c L) Y2.2 q ∧ RY c L q.y s.2.2 ∧ Df (XLt (150 * sd + 150) (420 * sd + 420) lt cb) S2 s.2.2 ∧ ((d' = 1 + cms q.y ∧ s.2.1 = 1 ∧ (q.y.1 = 0 → LtB q ∧ s.1 = bI q.orr ∧ s.2.2.1 95 12 = 0 ∧ s.2.2.1 95 46 = nI (lt + q.ls.length) ∧ s.2.2.1 95 53 = nI (cb + cdt q.ls) ∧ LitsR q.ls lt cb s.2.2)) ∨ (d' = 0 ∧ s.2.1 = 0 ∧ (q.y.1 = 0 → q.b = true ∧ opn q.s = 0 ∧ ¬ (24 ≤ tkK c L q.y.2 ∧ tkK c L q.y.2 ≤ 27) ∧ tkK c L q.y.2 ≠ 14 ∧ tkK c L q.y.2 ≠ 13 ∧ q.lf ≠ none ∧ s.2.2.1 95 12 = 0 ∧ s.2.2.1 95 46 = nI (lt + (cfL q).length) ∧ s.2.2.1 95 53 = nI (cb + cdt (cfL q)) ∧ LitsR (cfL q) lt cb s.2.2)))) (fun S3 => ∃ q, Rch (tkK c L) (tkV c L) (cInit Y2) q ∧ CQI (tkK c L) Y2.2 q ∧ RY c L q.y S3 ∧ Df (XLt (150 * sd + 150) (420 * sd + 420) lt cb) S2 S3 ∧ (q.y.1 = 0 → q.b = true ∧ opn q.s = 0 ∧ ¬ (24 ≤ tkK c L q.y.2 ∧ tkK c L q.y.2 ≤ 27) ∧ tkK c L q.y.2 ≠ 14 ∧ tkK c L q.y.2 ≠ 13 ∧ q.lf ≠ none ∧ S3.1 95 12 = 0 ∧ S3.1 95 46 = nI (lt + (cfL q).length) ∧ S3.1 95 53 = nI (cb + cdt (cfL q)) ∧ LitsR (cfL q) lt cb S3))) := fun v b hv z hkk => by
        refine Ok.ifF (by decide) ?_
        obtain ⟨how, l, k8, k1, k2, k3, k6, k7, k9, k10⟩ := lits z
        have nd := ncdn_k (K := tkK c L) z (by rw [hkk]; split <;> decide)
        obtain ⟨hQ5, hm5⟩ := hQ4.st (V := tkV c L) nd
        obtain ⟨S5, f5, d5, y5⟩ := r_goesOn (n := n) hT4 hy4 hw4
        apply Ok.step f5
        rw [← tk_gy (K := tkK c L) (k := tkK c L q4.y.2) (fun _ => rfl)] at y5
        have o5 : ∀ a j, (a ≠ 95 ∨ (j ≠ 11 ∧ j ≠ 13 ∧ j ≠ 14)) → S5.1 a j = S4.1 a j := fun a j hj => d5.2 _ _ (by simp only [XFl, Bool.and_eq_false_iff, Bool.or_eq_false_iff, beq_eq_false_iff_ne]; omega)
        have dat : S5.1 95 12 = 0 ∧ S5.1 95 46 = nI (lt + (q4.ls ++ [(q4.orr, q4.ng, how, l, q4.o ++ opsC (relO 1 q4.s))]).length) ∧ S5.1 95 53 = nI (cb + cdt (q4.ls ++ [(q4.orr, q4.ng, how, l, q4.o ++ opsC (relO 1 q4.s))])) ∧ LitsR (q4.ls ++ [(q4.orr, q4.ng, how, l, q4.o ++ opsC (relO 1 q4.s))]) lt cb S5 := by
          refine ⟨by rw [o5 _ _ (by omega)]; exact k6, by rw [o5 _ _ (by omega)]; exact k7, by rw [o5 _ _ (by omega)]; exact k9, k10.fr (fun a j h1 h2 _ => o5 _ _ (by omega)) (fun a j h1 _ => o5 _ _ (by omega))⟩
        cases b with
        | true =>
          have hk13 : tkK c L q4.y.2 = 13 := hkk
          have ecs := cst_or (K := tkK c L) (V := tkV c L) k1 k8 k2 hk13
          refine Ok.inl ⟨_, (by omega : 1 + cms (cst (tkK c L) (tkV c L) q4).y < 1 + cms q.y), cst (tkK c L) (tkV c L) q4, hr4'.tr (Rch.one nd), hQ5, by rw [ecs]; exact y5, d4'.trans (XFl_Lt d5), Or.inl ⟨rfl, rfl, fun _ => ?_⟩⟩
          rw [ecs]
          exact ⟨⟨rfl, rfl, rfl, rfl, rfl, rfl⟩, hv, dat⟩
        | false =>
          have hk14 : tkK c L q4.y.2 = 14 := hkk
          have ecs := cst_and (K := tkK c L) (V := tkV c L) k1 k8 k2 hk14
          refine Ok.inl ⟨_, (by omega : 1 + cms (cst (tkK c L) (tkV c L) q4).y < 1 + cms q.y), cst (tkK c L) (tkV c L) q4, hr4'.tr (Rch.one nd), hQ5, by rw [ecs]; exact y5, d4'.trans (XFl_Lt d5), Or.inl ⟨rfl, rfl, fun _ => ?_⟩⟩
          rw [ecs]
          exact ⟨⟨rfl, rfl, rfl, rfl, rfl, rfl⟩, hv, dat⟩
      by_cases c13 : q4.y.1 = 0 ∧ tkK c L q4.y.2 = 13
      · refine Ok.ifF (by rw [decide_eq_true c13]; decide) ?_
        exact more _ true (by rw [decide_eq_true c13]) c13.1 c13.2
      refine Ok.ifT (by rw [decide_eq_false c13]; rfl) ?_
      apply Ok.step i2
      by_cases c14 : q4.y.1 = 0 ∧ tkK c L q4.y.2 = 14
      · refine Ok.ifF (by rw [decide_eq_true c14]; decide) ?_
        exact more _ false (by rw [decide_eq_false c13]) c14.1 c14.2
      refine Ok.ifT (by rw [decide_eq_false c14]; rfl) (Ok.ifT rfl ?_)
      refine Ok.inl ⟨0, by omega, q4, hr4', hQ4, hy4, d4', Or.inr ⟨rfl, rfl, fun z => ?_⟩⟩
      obtain ⟨how, l, k8, k1, k2, k3, k6, k7, k9, k10⟩ := lits z
      rw [cfL_s k8]
      exact ⟨k1, k2, k3, fun y => c14 ⟨z, y⟩, fun y => c13 ⟨z, y⟩, (by rw [k8]; intro z; cases z), k6, k7, k9, k10⟩
  by_cases g0 : Y2.1 = 0
  · refine Ok.ifT (by rw [y2.1, g0]; rfl) ?_
    exact loop 1 (Or.inl rfl)
  · refine Ok.ifF (fun z => g0 ?_) ?_
    · rw [y2.1] at z
      have := hw2.1
      exact (nI_eq (b := 0) (by omega) (by decide)).mp z
    exact loop 0 (Or.inr ⟨rfl, g0⟩)
end RTL
