/-! ===== a text is read ===== -/
def GI (S : ST) : Prop := CnT S ∧ KWc S ∧ KWr S ∧ TI S ∧ S.1 8 2 = S.1 95 17
def tail2 (n : Nat) (f ix : Int32) (M : AM) : Option (Int32 × AM) := jn (fun (u19 : Int32) => (pI 11 2 M 8 u19).bind fun M20 => if f = 0 then (rcv 11 M20 8 (F_X11_settle n M20 8)).bind fun M23 => some (f, M23) else some (f, M20)) fun j24 => if f = 0 then j24 (-1 : Int32) else (gR 11 3 M 8).bind fun v26 => (rcv 9 M v26 (F_X9_placeAt n M v26 ix)).bind fun v27 => j24 v27
section FQR
variable {K0 K : AK} {R : Nat → Nat → Option Nat} {tw en n : Nat} {S : ST}
theorem pR_K {j v : Nat} (hk : K[8]? = some (.inl 11)) : pR 11 j (mkM K R S) 8 v = some (mkM K (upR R j v) S) := by
  unfold pR
  rw [if_pos ⟨hk, Nat.le_refl _⟩]; rfl
def setS (S3 : ST) : ST := upI (upI (upI (fillS (upI S3 72 1 (0 : Int32)) 75 3 (-1 : Int32)) 8 10 (0 : Int32)) 90 0 (-1 : Int32)) 92 3 (0 : Int32)
theorem F_settle {S3 : ST} (hn : 30000 ≤ n) (hL : Lay K R tw en) (hS : E_X10_settle n S (69 - tw) = some S3) : F_X11_settle n (mkM K R S) 8 = some (mkM K (upR (upR R 6 (69 - tw)) 7 tw) (setS S3)) := by
  have hL2 := hL.swap
  have hT2 := layT hL2
  have e1 := E_X10_settle_ok hn hL2 hT2 hS
  have e2 := E_X5_clear_ok (S := S3) hn hL2 (o := fillS (upI S3 72 1 (0 : Int32)) 75 3 (-1 : Int32)) rfl
  have e3 := E_X0_forget_ok (S := upI (fillS (upI S3 72 1 (0 : Int32)) 75 3 (-1 : Int32)) 8 10 (0 : Int32)) hn hL2 rfl
  have e4 := E_X6_forget_ok (S := upI (upI (fillS (upI S3 72 1 (0 : Int32)) 75 3 (-1 : Int32)) 8 10 (0 : Int32)) 90 0 (-1 : Int32)) hn hL2 rfl
  unfold F_X11_settle
  rw [gR_8 hL (rd_told hL), Option.bind_some, gR_8 hL (rd_spare hL), Option.bind_some, pR_K (kd_8 hL), Option.bind_some, pR_K (kd_8 hL), Option.bind_some, gR_8 hL2 (rd_told hL2), Option.bind_some, rcv_k (kW_0 hT2) hT2.2.2, e1, Option.bind_some, gR_8 hL2 (rd_8_8 hL2), Option.bind_some, rcv_k (kd_72 hL2) (by decide), e2, Option.bind_some, pZ_8 hL2 (Or.inl rfl), Option.bind_some, gR_8 hL2 (rd_8_13 hL2), Option.bind_some, rcv_k (kd_90 hL2) (by decide), e3, Option.bind_some, gR_8 hL2 (rd_8_14 hL2), Option.bind_some, rcv_k (kd_92 hL2) (by decide), e4, Option.bind_some]
  rfl
theorem tail2_bad {f ix p : Int32} (hn : 30000 ≤ n) (hL : Lay K R tw en) (hf : f ≠ 0) (hp : E_X9_placeAt n S ix = some p) : tail2 n f ix (mkM K R S) = some (f, mkM K R (upI S 8 2 p)) := by
  have e1 := E_X9_placeAt_ok hn hL hp
  unfold tail2
  simp only [jn]
  rw [if_neg hf, gR_8 hL (rd_8_3 hL), Option.bind_some, rcv_k (kd_10 hL) (by decide), e1, Option.bind_some, pI_8 hL, Option.bind_some, if_neg hf]
theorem tail2_ok {ix : Int32} {S3 : ST} (hn : 30000 ≤ n) (hL : Lay K R tw en) (hS : E_X10_settle n (upI S 8 2 (-1 : Int32)) (69 - tw) = some S3) : tail2 n 0 ix (mkM K R S) = some (0, mkM K (upR (upR R 6 (69 - tw)) 7 tw) (setS S3)) := by
  unfold tail2
  simp only [jn, if_true]
  rw [pI_8 hL, Option.bind_some, rcv_k (kd_8 hL) (Nat.le_refl _), F_settle hn hL hS, Option.bind_some]
end FQR
section QRD
variable {W : VW} {V : VL} {tw en sd : Nat} {P : PL} {N : Nat} {H : HL} {n : Nat} {S : ST} {K0 K : AK} {R : Nat → Nat → Option Nat}
set_option maxRecDepth 100000 in
theorem q_read (hI : IV W V tw en sd P N H S) (hn : 30000 ≤ n) (hLy : LyP K0 K R tw en) (hG : GI S) : ∃ W' V' tw' sd' P' N' H' R' v S1 S2, F_X11_read n (mkM K R S) 8 = some (v, mkM K R' S1) ∧ E_X12_read n S1 = some (v, S2) ∧ Lay K R' tw' en ∧ IV W' V' tw' en sd' P' N' H' S2 ∧ GI S2 ∧ LyP K0 K R' tw' en ∧ (∀ a j, a < 8 → S2.1 a j = S.1 a j) ∧ S2.2 161 = S.2 161 := by
  obtain ⟨hCn, hKc, hKr, ⟨T, hT0, h1, h2, h3⟩, h17⟩ := hG
  obtain ⟨hW, hPW, hHW, hC, hR⟩ := hI
  have hL := hLy.1
  have htw : tw = 22 ∨ tw = 47 := hC.1.1
  have hw' : 69 - tw = 22 ∨ 69 - tw = 47 := by omega
  have hsd := hR.1.1
  have hLW : LW K R (69 - tw) := by
    rcases htw with h | h
    · subst h; exact layW_47 hL
    · subst h; exact layW_22 hL
  have hLL : LL K R (69 - tw + 13) := by
    rcases htw with h | h
    · subst h; exact layL_60 hL
    · subst h; exact layL_35 hL
  have hl' : 69 - tw + 13 = 35 ∨ 69 - tw + 13 = 60 := by omega
  have hex : ∀ k, ∃ x, k < T → x < 256 ∧ S.1 9 k = bv x := fun k => by
    by_cases q : k < T
    · obtain ⟨b, hb⟩ := (h3 k q).2
      obtain ⟨x, x1, x2⟩ := bv_of b
      exact ⟨x, fun _ => ⟨x1, by rw [hb, x2]⟩⟩
    · exact ⟨0, fun z => absurd z q⟩
  obtain ⟨c, hc⟩ := Classical.axiomOfChoice hex
  have tb9 : TB c T 9 S := ⟨hT0, fun k hk => hc k hk⟩
  have hcV : ∀ j, tkV c T j < 2 ^ 63 := fun j => tkV_63
  have hw0 : yW (tkK c T) sy0.1 := ⟨Nat.zero_le _, Nat.zero_le _, fun i hi => absurd hi (Nat.not_lt_zero i)⟩
  have hms : cms sy0.1 < 402 := by unfold cms; split <;> omega
  obtain ⟨YF, hYF⟩ : ∃ YF, YF = syR (tkK c T) (tkV c T) 402 sy0 := ⟨_, rfl⟩
  obtain ⟨MF, hMF⟩ : ∃ MF, MF = smR (tkK c T) (tkV c T) 402 sy0 sm0 := ⟨_, rfl⟩
  have hwF : yW (tkK c T) YF.1 := by rw [hYF]; exact syR_w 402 _ hw0
  have hSL : SYL YF := by
    rw [hYF]
    exact syR_L 402 _ hw0 (fun _ s _ => ⟨rfl, rfl, fun i hi => absurd hi (Nat.not_lt_zero i)⟩)
  -- the reference, later
  have ref : ∀ S1 : ST, (∀ a j, 95 ≤ a → a ≤ 160 → S1.1 a j = S.1 a j) → S1.2 102 = S.2 102 →
      Ok (E_X12_read n S1) (fun r => ∃ M, (YF.1.1 = 0 → M = MF) ∧ r.2.1 95 2 = 0 ∧
      ((YF.1.1 ≠ 0 ∧ r.1 = nI YF.1.1 ∧ r.2.1 95 17 = nI (tkS c T YF.1.2) ∧ D2 (XRd (1 - sd)) YRd S1 r.2) ∨
       (YF.1.1 = 0 ∧ (∃ x, M.2.2 = some x ∧ r.1 = nI x.1 ∧ r.2.1 95 17 = nI (tkS c T x.2) ∧ x.2 < YF.1.2 ∧ x.1 ≠ 0 ∧ x.1 < 10) ∧ D2 (XRd (1 - sd)) YRd S1 r.2) ∨
       (YF.1.1 = 0 ∧ M.2.2 = none ∧ r.1 = 0 ∧ r.2.1 95 17 = -1 ∧ r.2.1 95 18 = nI (1 - sd) ∧ r.2.1 95 62 = 0 ∧ (∀ s, s < 3 → r.2.1 155 s = -1) ∧ RRt c T (1 - sd) YF M r.2 ∧ D2 (XRd1 (1 - sd)) YRd S1 r.2))) := fun S1 e e2 => by
    refine (r_readE (n := n) (c := c) (L := T) (sd := 1 - sd) hn (by omega) ⟨hT0, fun k hk => ⟨(hc k hk).1, ?_⟩⟩ ?_ ?_ (fun j hj => ?_)).mono (fun r hr => ?_)
    · rw [e _ _ (by decide) (by decide), ← (h3 k hk).1]; exact (hc k hk).2
    · rw [e _ _ (by decide) (by decide)]; exact h2
    · rw [e _ _ (by decide) (by decide), show 1 - (1 - sd) = sd by omega]; exact hR.1.2.1
    · rw [e2]; exact hKr j hj
    · obtain ⟨Y, M, r1, r2, r3, r4⟩ := hr
      rw [← hYF] at r1
      subst r1
      rw [← hMF] at r2
      exact ⟨M, r2, r3, r4⟩
  -- the class cuts and checks
  obtain ⟨S1, f1, d1, k1⟩ := c_scan (n := n) hn tb9 hKc
  have F1 := E_X9_scan_ok hn hL f1
  obtain ⟨S3, f3, c3, z3, y3, l3, o3⟩ := c_clear (n := n) (w := 69 - tw) (S := upI S1 8 1 (0 : Int32)) hw'
  have F3 := E_X10_clear_ok hn hL hLW f3
  have oS3 : ∀ a j, (a < 69 - tw ∨ 69 - tw + 24 < a) → (a ≠ 8 ∨ j ≠ 1) → a ≠ 10 → a ≠ 11 → a ≠ 12 → S3.1 a j = S.1 a j := fun a j q1 q2 q3 q4 q5 => by
    rw [o3 a j q1, upI_at, if_neg (by omega)]
    exact d1.2 a j (by simp only [XSc, Bool.or_eq_false_iff, Bool.and_eq_false_iff, beq_eq_false_iff_ne]; omega)
  have z81 : S3.1 8 1 = 0 := by rw [o3 _ _ (by omega), upI_at, if_pos ⟨rfl, rfl⟩]
  have lS3 : ∀ a, a ≠ 13 → S3.2 a = S.2 a := fun a q => by
    rw [l3]
    exact d1.1 a (by simp only [YSc, beq_eq_false_iff_ne]; exact q)
  have hT3 : CTk c T S3 := by
    have k2 : CTk c T (upI S1 8 1 (0 : Int32)) := k1.d2 (X := fun a j => a == 8 && j == 1) (Y := YN) ((D2.refl _ _ _).up rfl) (fun a j hx => by
      simp only [XSc, Bool.or_eq_true, Bool.and_eq_true, beq_iff_eq] at hx
      simp only [Bool.and_eq_false_iff, beq_eq_false_iff_ne]
      omega) rfl
    exact k2.d2 (X := fun a _ => decide (22 ≤ a)) (Y := YN) ⟨fun a _ => congrFun l3 a, fun a j hx => o3 a j (by simp only [decide_eq_false_iff_not] at hx; omega)⟩ (fun a j hx => by
      simp only [XSc, Bool.or_eq_true, Bool.and_eq_true, beq_iff_eq] at hx
      simp only [decide_eq_false_iff_not]
      omega) rfl
  have hCn3 : CnT S3 := fun k hk => by
    rw [oS3 _ _ (by omega) (by omega) (by omega) (by omega) (by omega), oS3 _ _ (by omega) (by omega) (by omega) (by omega) (by omega), oS3 _ _ (by omega) (by omega) (by omega) (by omega) (by omega)]
    exact hCn k hk
  obtain ⟨⟨v4, S4⟩, f4, e4, d4, y4⟩ := c_check (n := n) (l := 69 - tw + 13) hn hl' hT3 hCn3 z3 (fun s hs => by rw [show 69 - tw + 13 + 5 = 69 - tw + 18 by omega]; exact y3 s hs)
  dsimp only at e4 d4 y4
  rw [← hYF] at e4 y4
  have F4 := E_X2_check_ok hn hL hLL f4
  have hT4 := hT3.ck hl' d4
  have oS4 : ∀ a j, (a < 69 - tw ∨ 69 - tw + 24 < a) → (a ≠ 8 ∨ j ≠ 1) → (a < 10 ∨ 17 < a) → S4.1 a j = S.1 a j := fun a j q1 q2 q3 => by
    rw [d4.2 a j (by simp only [XCk, Bool.or_eq_false_iff, Bool.and_eq_false_iff, beq_eq_false_iff_ne, decide_eq_false_iff_not]; omega)]
    exact oS3 a j q1 q2 (by omega) (by omega) (by omega)
  have z481 : S4.1 8 1 = 0 := by
    rw [d4.2 8 1 (by simp only [XCk, Bool.or_eq_false_iff, Bool.and_eq_false_iff, beq_eq_false_iff_ne, decide_eq_false_iff_not]; omega)]; exact z81
  have lS4 : ∀ a, a ≠ 13 → S4.2 a = S.2 a := fun a q => by rw [d4.1]; exact lS3 a q
  have c4 : CTd (69 - tw) (fun _ => 0) (fun _ _ => 0) S4 := by
    obtain ⟨p1, p2, p3, p4, p5⟩ := c3
    have oc : ∀ a j, (69 - tw + 1 ≤ a ∧ a ≤ 69 - tw + 12) ∨ a = 69 - tw + 21 → S4.1 a j = S3.1 a j := fun a j q => d4.2 a j (by simp only [XCk, Bool.or_eq_false_iff, Bool.and_eq_false_iff, beq_eq_false_iff_ne, decide_eq_false_iff_not]; omega)
    exact ⟨fun k hk => by rw [oc _ _ (by omega)]; exact p1 k hk, fun q hq j hj => absurd hj (Nat.not_lt_zero j), fun a ha => by rw [oc _ _ (by omega)]; exact p3 a ha, fun p hp => by rw [oc _ _ (by omega)]; exact p4 p hp, fun p h hp hh => by rw [oc _ _ (by omega)]; exact p5 p h hp hh⟩
  -- the head of the walk
  have head : F_X11_read n (mkM K R S) 8 = if v4 = 0 then (F_X8_tellAll n (mkM K R S4) 18 (69 - tw)).bind fun v32 => (gR 11 5 v32.2 8).bind fun v33 => (gI 8 6 v32.2 v33).bind fun v34 => tail2 n v32.1 v34 v32.2 else tail2 n v4 (S4.1 15 4) (mkM K R S4) := by
    have e12 : gR 10 12 (mkM K R S3) (69 - tw) = some (69 - tw + 13) := by
      unfold gR
      rw [if_pos ⟨kW_0 hLW, hLW.2.2⟩]
      exact rW_0_12 hLW
    have e15 : gI 2 4 (mkM K R S4) 15 = some (S4.1 15 4) := by simp [gI, mkM, kd_15 hL]
    unfold F_X11_read
    rw [gR_8 hL (rd_8_3 hL), Option.bind_some, gR_8 hL (rd_8_0 hL), Option.bind_some, gI_8 hL, Option.bind_some, h1, rcv_k (kd_10 hL) (by decide), F1, Option.bind_some, pI_8 hL, Option.bind_some, gR_8 hL (rd_spare hL), Option.bind_some, rcv_k (kW_0 hLW) hLW.2.2, F3, Option.bind_some, gR_8 hL (rd_8_4 hL), Option.bind_some, gR_8 hL (rd_spare hL), Option.bind_some, e12, Option.bind_some, rcv_k (kd_15 hL) (by decide), F4, Option.bind_some]
    dsimp only
    rw [gR_8 hL (rd_8_4 hL), Option.bind_some, e15, Option.bind_some]
    by_cases q : v4 = 0
    · simp only [jn, tail2, if_pos q]
      rw [gR_8 hL (rd_8_5 hL), Option.bind_some, gR_8 hL (rd_spare hL), Option.bind_some, rcv_k (kd_18 hL) (by decide)]
    · simp only [jn, tail2, if_neg q]
  -- a fault
  have bad : ∀ (S5 : ST) (f : Nat) (p : Nat), f ≠ 0 → f < 10 → (∀ a j, (a < 69 - tw ∨ 69 - tw + 24 < a) → (a ≠ 8 ∨ (j ≠ 1 ∧ j ≠ 2)) → (a < 10 ∨ 21 < a) → S5.1 a j = S.1 a j) → (∀ a, a ≠ 13 → a ≠ 19 → S5.2 a = S.2 a) → S5.1 8 1 = 0 → S5.1 8 2 = nI p → F_X11_read n (mkM K R S) 8 = some (nI f, mkM K R S5) → ((YF.1.1 ≠ 0 ∧ f = YF.1.1 ∧ p = tkS c T YF.1.2) ∨ (YF.1.1 = 0 ∧ ∃ x, MF.2.2 = some x ∧ f = x.1 ∧ p = tkS c T x.2)) → ∃ W' V' tw' sd' P' N' H' R' v S1 S2, F_X11_read n (mkM K R S) 8 = some (v, mkM K R' S1) ∧ E_X12_read n S1 = some (v, S2) ∧ Lay K R' tw' en ∧ IV W' V' tw' en sd' P' N' H' S2 ∧ GI S2 ∧ LyP K0 K R' tw' en ∧ (∀ a j, a < 8 → S2.1 a j = S.1 a j) ∧ S2.2 161 = S.2 161 := fun S5 f p hf hf2 o5 l5 z5 p5 hF hcase => by
    obtain ⟨⟨v6, S6⟩, f6, M, hM, r2, hr⟩ := ref S5 (fun a j q1 q2 => o5 a j (by omega) (by omega) (by omega)) (l5 102 (by decide) (by decide))
    dsimp only at r2 hr
    have hvd : v6 = nI f ∧ S6.1 95 17 = nI p ∧ D2 (XRd (1 - sd)) YRd S5 S6 := by
      rcases hcase with ⟨q1, q2, q3⟩ | ⟨q1, x, q2, q3, q4⟩
      · rcases hr with ⟨r3, r4, r5, r6⟩ | ⟨r3, _⟩ | ⟨r3, _⟩
        · rw [q2, q3]; exact ⟨r4, r5, r6⟩
        · exact absurd r3 q1
        · exact absurd r3 q1
      · have eM := hM q1
        rcases hr with ⟨r3, _⟩ | ⟨_, ⟨x', x1, x2, x3, _⟩, r6⟩ | ⟨_, r4, _⟩
        · exact absurd q1 r3
        · rw [eM, q2] at x1
          have ex := Option.some.inj x1
          rw [q3, q4, ex]; exact ⟨x2, x3, r6⟩
        · rw [eM, q2] at r4; cases r4
    obtain ⟨rfl, p6, d6⟩ := hvd
    clear hcase hr hM
    have o6 : ∀ a j, (a < 95 ∨ 160 < a) → S6.1 a j = S5.1 a j := fun a j q => d6.2 a j (by
      simp only [XRd, XTe, lawJ, Bool.or_eq_false_iff, Bool.and_eq_false_iff, beq_eq_false_iff_ne, decide_eq_false_iff_not]
      omega)
    refine ⟨W, V, tw, sd, P, N, H, R, nI f, S5, S6, hF, f6, hL, ⟨hW, hPW, hHW, hC.dfY (fun a j q => ?_), RI.kept hW hR (fun a j q1 q2 => ?_)⟩, ⟨fun k hk => ?_, fun j hj => ?_, fun j hj => ?_, ⟨0, Nat.zero_le _, ?_, r2, fun k hk => absurd hk (Nat.not_lt_zero k)⟩, ?_⟩, hLy, fun a j q => ?_, ?_⟩
    · rw [o6 _ _ (by omega), o5 _ _ (by omega) (by omega) (by omega)]
    · rw [d6.2 _ _ q2, o5 _ _ (by omega) (by omega) (by omega)]
    · rw [o6 _ _ (by omega), o5 _ _ (by omega) (by omega) (by omega), o6 _ _ (by omega), o5 _ _ (by omega) (by omega) (by omega), o6 _ _ (by omega), o5 _ _ (by omega) (by omega) (by omega)]
      exact hCn k hk
    · rw [d6.1 14 rfl, l5 14 (by decide) (by decide)]; exact hKc j hj
    · rw [d6.1 102 rfl, l5 102 (by decide) (by decide)]; exact hKr j hj
    · rw [o6 _ _ (by omega)]; exact z5
    · rw [o6 _ _ (by omega), p5, p6]
    · rw [o6 _ _ (by omega), o5 _ _ (by omega) (by omega) (by omega)]
    · rw [d6.1 161 rfl, l5 161 (by decide) (by decide)]
  have hw1F := hwF.1
  by_cases c0 : YF.1.1 = 0
  case neg =>
    have hv4 : v4 ≠ 0 := fun z => c0 (by rw [e4] at z; exact (nI_eq (b := 0) (by omega) (by decide)).mp z)
    have hpl := c_placeT (n := n) hT4 hwF.2.1 hwF.2.2
    have hF : F_X11_read n (mkM K R S) 8 = some (nI YF.1.1, mkM K R (upI S4 8 2 (nI (tkS c T YF.1.2)))) := by
      rw [head, if_neg hv4, y4.1.1, tail2_bad hn hL hv4 hpl, e4]
    refine bad (upI S4 8 2 (nI (tkS c T YF.1.2))) YF.1.1 _ c0 (by omega) (fun a j q1 q2 q3 => ?_) (fun a q1 _ => lS4 a q1) ?_ ?_ hF (Or.inl ⟨c0, rfl, rfl⟩)
    · rw [upI_at, if_neg (by omega)]; exact oS4 a j q1 (by omega) (by omega)
    · rw [upI_at, if_neg (by omega)]; exact z481
    · rw [upI_at, if_pos ⟨rfl, rfl⟩]
  have hv4 : v4 = 0 := by rw [e4, c0]; rfl
  obtain ⟨⟨v5, S5⟩, f5, d5, g5, g5'⟩ := c_tellAll (n := n) (w := 69 - tw) (YF := YF) (MF := MF) hn hw' hT4 hYF.symm c0 hMF.symm c4
  dsimp only at d5 g5 g5'
  have F5 := E_X8_tellAll_ok hn hL hLW f5
  have hT5 := hT4.cd hw' d5
  have o5 : ∀ a j, (a < 69 - tw ∨ 69 - tw + 24 < a) → (a ≠ 8 ∨ j ≠ 1) → (a < 10 ∨ 21 < a) → S5.1 a j = S.1 a j := fun a j q1 q2 q3 => by
    rw [d5.2 a j (by simp only [XCd, Bool.or_eq_false_iff, Bool.and_eq_false_iff, beq_eq_false_iff_ne, decide_eq_false_iff_not]; omega)]
    exact oS4 a j q1 q2 (by omega)
  have z581 : S5.1 8 1 = 0 := by
    rw [d5.2 8 1 (by simp only [XCd, Bool.or_eq_false_iff, Bool.and_eq_false_iff, beq_eq_false_iff_ne, decide_eq_false_iff_not]; omega)]; exact z481
  have l5 : ∀ a, a ≠ 13 → a ≠ 19 → S5.2 a = S.2 a := fun a q1 q2 => by rw [d5.1 a (by simp only [YNw, beq_eq_false_iff_ne]; exact q2)]; exact lS4 a q1
  have head2 : F_X11_read n (mkM K R S) 8 = tail2 n v5 (S5.1 18 6) (mkM K R S5) := by
    have e18 : gI 8 6 (mkM K R S5) 18 = some (S5.1 18 6) := by simp [gI, mkM, kd_18 hL]
    rw [head, if_pos hv4, F5, Option.bind_some]
    dsimp only
    rw [gR_8 hL (rd_8_5 hL), Option.bind_some, e18, Option.bind_some]
  cases hsf : MF.2.2 with
  | some x =>
    obtain ⟨x1, x2⟩ := g5' x hsf
    -- where its token is
    obtain ⟨⟨_, S9⟩, _, M, hM, _, hr⟩ := ref S (fun _ _ _ _ => rfl) rfl
    have hx : x.2 < YF.1.2 ∧ x.1 ≠ 0 ∧ x.1 < 10 := by
      have eM := hM c0
      rcases hr with ⟨r3, _⟩ | ⟨_, ⟨x', y1, _, _, y4⟩, _⟩ | ⟨_, r4, _⟩
      · exact absurd c0 r3
      · rw [eM, hsf] at y1
        rw [Option.some.inj y1]; exact y4
      · rw [eM, hsf] at r4; cases r4
    obtain ⟨hx1, hx2, hx3⟩ := hx
    have hY2 := hwF.2.1
    have hv5 : v5 ≠ 0 := fun z => hx2 (by rw [x1] at z; exact (nI_eq (b := 0) (by omega) (by decide)).mp z)
    have hpl := c_placeT (n := n) hT5 (j := x.2) (by omega) (fun i hi => hwF.2.2 i (by omega))
    have hF : F_X11_read n (mkM K R S) 8 = some (nI x.1, mkM K R (upI S5 8 2 (nI (tkS c T x.2)))) := by
      rw [head2, x2, tail2_bad hn hL hv5 hpl, x1]
    refine bad (upI S5 8 2 (nI (tkS c T x.2))) x.1 _ hx2 hx3 (fun a j q1 q2 q3 => ?_) (fun a q1 q2 => l5 a q1 q2) ?_ ?_ hF (Or.inr ⟨c0, x, hsf, rfl, rfl⟩)
    · rw [upI_at, if_neg (by omega)]; exact o5 a j q1 (by omega) q3
    · rw [upI_at, if_neg (by omega)]; exact z581
    · rw [upI_at, if_pos ⟨rfl, rfl⟩]
  | none =>
    obtain ⟨x1, x2⟩ := g5 hsf
    have hcmF : ∀ k, k < 11 → YF.2.1 k ≤ cmx k := fun k hk => ((y4.2.2 c0).1 k hk).2
    have hwq : WFq YF.2.1 MF.2.1 := by
      have h0 := smR_wf (K := tkK c T) (V := tkV c T) hcV 402 sy0 sm0 hw0 rfl hms (by rw [← hYF]; exact c0) (fun _ => ⟨⟨(fun e he => by cases he), fun i j hi => absurd hi (Nat.not_lt_zero i)⟩, ⟨fun k hk => Nat.zero_le _, fun k hk j hj => absurd hj (Nat.not_lt_zero j)⟩⟩) (by rw [← hMF]; exact hsf)
      rw [← hYF, ← hMF] at h0
      exact h0
    have hWF := hwq.wf
    -- the laws of the class
    have hCL : CLw (Vt YF) (Wc YF.2.1 MF.2.1) (69 - tw + 13) (upI S5 8 2 (-1 : Int32)) := by
      have h0 : CLw (Vt YF) (Wc YF.2.1 MF.2.1) (69 - tw + 13) S4 := CLw_of (y4.2.2 c0).2 hSL c0 hcmF (fun s _ => rfl)
      have oL : ∀ a j, 69 - tw + 13 + 1 ≤ a → a ≤ 69 - tw + 13 + 5 → (upI S5 8 2 (-1 : Int32)).1 a j = S4.1 a j := fun a j q1 q2 => by
        rw [upI_at, if_neg (by omega)]
        exact d5.2 a j (by simp only [XCd, Bool.or_eq_false_iff, Bool.and_eq_false_iff, beq_eq_false_iff_ne, decide_eq_false_iff_not]; omega)
      exact ⟨fun s hs => by rw [oL _ _ (by omega) (by omega)]; exact h0.1 s hs, fun S' n s k hn hl hs hk => h0.2 S' n s k hn (fun a j q1 q2 => (hl a j q1 q2).trans (oL a j q1 (by omega))) hs hk⟩
    have hCT : CTd (69 - tw) (Wc YF.2.1 MF.2.1 0) (Wc YF.2.1 MF.2.1) (upI S5 8 2 (-1 : Int32)) := (CTd_Wc x2).fr (fun a j q1 q2 => by rw [upI_at, if_neg (by omega)])
    obtain ⟨S7, f7, cw7, l7, o7⟩ := c_settle (n := n) hn hw' hWF hCT hCL
    have hF : F_X11_read n (mkM K R S) 8 = some (0, mkM K (upR (upR R 6 (69 - tw)) 7 tw) (setS S7)) := by
      rw [head2, x1, tail2_ok hn hL f7]
    obtain ⟨S8, eS8⟩ : ∃ S8, S8 = setS S7 := ⟨_, rfl⟩
    rw [← eS8] at hF
    have o8 : ∀ a j, (a ≠ 72 ∨ j ≠ 1) → a ≠ 75 → (a ≠ 8 ∨ j ≠ 10) → (a ≠ 90 ∨ j ≠ 0) → (a ≠ 92 ∨ j ≠ 3) → S8.1 a j = S7.1 a j := fun a j q1 q2 q3 q4 q5 => by
      rw [eS8]
      unfold setS
      rw [upI_at, if_neg (by omega), upI_at, if_neg (by omega), upI_at, if_neg (by omega)]
      unfold fillS
      rw [setC_ne q2, upI_at, if_neg (by omega)]
    have v72 : S8.1 72 1 = 0 := by
      rw [eS8]; unfold setS
      rw [upI_at, if_neg (by omega), upI_at, if_neg (by omega), upI_at, if_neg (by omega)]
      unfold fillS
      rw [setC_ne (by omega), upI_at, if_pos ⟨rfl, rfl⟩]
    have v75 : ∀ s, s < 3 → S8.1 75 s = -1 := fun s hs => by
      rw [eS8]; unfold setS
      rw [upI_at, if_neg (by omega), upI_at, if_neg (by omega), upI_at, if_neg (by omega)]
      unfold fillS
      rw [setC_eq, if_pos hs]
    have v810 : S8.1 8 10 = 0 := by
      rw [eS8]; unfold setS
      rw [upI_at, if_neg (by omega), upI_at, if_neg (by omega), upI_at, if_pos ⟨rfl, rfl⟩]
    have v90 : S8.1 90 0 = -1 := by
      rw [eS8]; unfold setS
      rw [upI_at, if_neg (by omega), upI_at, if_pos ⟨rfl, rfl⟩]
    have v92 : S8.1 92 3 = 0 := by
      rw [eS8]; unfold setS
      rw [upI_at, if_pos ⟨rfl, rfl⟩]
    have oo : ∀ a j, (a < 69 - tw ∨ 69 - tw + 24 < a) → (a ≠ 8 ∨ (j ≠ 1 ∧ j ≠ 2 ∧ j ≠ 10)) → (a < 10 ∨ 21 < a) → (a < 72 ∨ 94 < a) → S8.1 a j = S.1 a j := fun a j q1 q2 q3 q4 => by
      rw [o8 _ _ (by omega) (by omega) (by omega) (by omega) (by omega), o7 _ _ (by omega), upI_at, if_neg (by omega)]
      exact o5 a j q1 (by omega) q3
    have l8 : S8.2 = S7.2 := by rw [eS8]; rfl
    have l78 : S8.2 = S5.2 := by rw [l8, l7]; rfl
    obtain ⟨⟨v6, S6⟩, f6, M, hM, r2, hr⟩ := ref S8 (fun a j q1 q2 => oo a j (by omega) (by omega) (by omega) (by omega)) (by rw [l78]; exact l5 102 (by decide) (by decide))
    have eM := hM c0
    dsimp only at r2 hr
    subst eM
    rcases hr with ⟨r3, _⟩ | ⟨_, ⟨x', y1, _⟩, _⟩ | ⟨_, _, e6, p17, p18, p62, p155, hRt, d6⟩
    · exact absurd c0 r3
    · rw [hsf] at y1; cases y1
    have o6 : ∀ a j, (a < 95 ∨ 160 < a) → S6.1 a j = S8.1 a j := fun a j q => d6.2 a j (by
      simp only [XRd1, XRd, XTe, lawJ, Bool.or_eq_false_iff, Bool.and_eq_false_iff, beq_eq_false_iff_ne, decide_eq_false_iff_not]
      omega)
    have hL2 := hL.swap
    have hrd := hRt.2.2.2 c0
    have cw8 : CW (Wc YF.2.1 M.2.1) (Vt YF) (69 - tw) S8 := by
      have h0 : CW (Wc YF.2.1 M.2.1) (Vt YF) (69 - tw) (S8.1, S7.2) := cw7.df (X := fun a j => decide (72 ≤ a ∨ a = 8)) ⟨rfl, fun a j hx => o8 a j (by simp only [decide_eq_false_iff_not] at hx; omega) (by simp only [decide_eq_false_iff_not] at hx; omega) (by simp only [decide_eq_false_iff_not] at hx; omega) (by simp only [decide_eq_false_iff_not] at hx; omega) (by simp only [decide_eq_false_iff_not] at hx; omega)⟩ (fun a j hx => by simp only [decide_eq_false_iff_not]; omega)
      exact h0
    have hCI8 : CI (Wc YF.2.1 M.2.1) (Vt YF) (69 - tw) en P 0 (fun _ => none) S8 := by
      refine ⟨cw8, ⟨v72, fun k q hk => absurd hk (Nat.not_lt_zero k)⟩, fun s hs => ⟨fun _ => v75 s hs, fun q hq => by cases hq⟩, Or.inl v810, Or.inl v92, ⟨hC.2.2.2.2.2.1, Or.inl v90⟩⟩
    refine ⟨Wc YF.2.1 M.2.1, Vt YF, 69 - tw, 1 - sd, P, 0, fun _ => none, _, 0, S8, S6, hF, by rw [e6] at f6; exact f6, hL2, ⟨hWF, ⟨Nat.zero_le _, fun k hk => absurd hk (Nat.not_lt_zero k)⟩, (fun s hs q hq => by cases hq), hCI8.dfY (fun a j q => ?_), ⟨RRep_of (by omega) hRt c0 hsf p18, RLw_of (by omega) hrd.2.2.2.1 hwF.2.1 hSL c0 hcmF (fun s _ => rfl), ⟨p62, fun k hk => absurd hk (Nat.not_lt_zero k)⟩, fun s hs => ⟨fun _ => p155 s hs, fun q hq => by cases hq⟩, ?_, ?_⟩⟩, ⟨fun k hk => ?_, fun j hj => ?_, fun j hj => ?_, ⟨0, Nat.zero_le _, ?_, r2, fun k hk => absurd hk (Nat.not_lt_zero k)⟩, ?_⟩, ⟨hL2, hLy.2.1, hLy.2.2⟩, fun a j q => ?_, ?_⟩
    · exact o6 _ _ (by omega)
    · rw [d6.2 95 61 (by simp [XRd1, XRd, XTe, lawJ]), oo _ _ (by omega) (by omega) (by omega) (by omega)]; exact hR.2.2.2.2.1
    · rw [d6.2 95 73 (by simp [XRd1, XRd, XTe, lawJ]), oo _ _ (by omega) (by omega) (by omega) (by omega)]; exact hR.2.2.2.2.2
    · rw [o6 _ _ (by omega), oo _ _ (by omega) (by omega) (by omega) (by omega), o6 _ _ (by omega), oo _ _ (by omega) (by omega) (by omega) (by omega), o6 _ _ (by omega), oo _ _ (by omega) (by omega) (by omega) (by omega)]
      exact hCn k hk
    · rw [d6.1 14 rfl, l78, l5 14 (by decide) (by decide)]; exact hKc j hj
    · rw [d6.1 102 rfl, l78, l5 102 (by decide) (by decide)]; exact hKr j hj
    · rw [o6 _ _ (by omega), o8 _ _ (by omega) (by omega) (by omega) (by omega) (by omega), o7 _ _ (by omega), upI_at, if_neg (by omega)]; exact z581
    · rw [o6 _ _ (by omega), o8 _ _ (by omega) (by omega) (by omega) (by omega) (by omega), o7 _ _ (by omega), upI_at, if_pos ⟨rfl, rfl⟩, p17]
    · rw [o6 _ _ (by omega), oo _ _ (by omega) (by omega) (by omega) (by omega)]
    · rw [d6.1 161 rfl, l78, l5 161 (by decide) (by decide)]
end QRD
