/-! ===== the constructors: memories as tables ===== -/
/-- own cells, references, ints (from, how many), longs -/
abbrev DD : Type := AK × List (Nat × Nat × Nat) × List (Nat × Nat × Nat × Int32) × List (Nat × Nat × Int64)
def fR (l : List (Nat × Nat × Nat)) (a j : Nat) : Option Nat := (l.find? (fun e => e.1 == a && e.2.1 == j)).map (fun e => e.2.2)
def fI (l : List (Nat × Nat × Nat × Int32)) (a j : Nat) : Option Int32 := (l.find? (fun e => e.1 == a && (decide (e.2.1 ≤ j) && decide (j < e.2.1 + e.2.2.1)))).map (fun e => e.2.2.2)
def fL (l : List (Nat × Nat × Int64)) (a j : Nat) : Option Int64 := (l.find? (fun e => e.1 == a && e.2.1 == j)).map (fun e => e.2.2)
def dnm (L : Nat) (xs : Nat → Int32) (D : DD) : AM := ((M0 L xs).1 ++ D.1, fun a j => (fI D.2.2.1 a j).getD ((M0 L xs).2.1 a j), fun a j => (fL D.2.2.2 a j).getD 0, fun a j => fR D.2.1 a j)
def lnD (D : DD) : Nat := 8 + D.1.length
def okD (D : DD) : Bool := D.2.1.all (fun e => decide (e.1 < lnD D)) && (D.2.2.1.all (fun e => decide (e.1 < lnD D)) && D.2.2.2.all (fun e => decide (e.1 < lnD D)))
def adK (D : DD) (q : Nat ⊕ (Nat × Nat)) : DD := (D.1 ++ [q], D.2)
def adR (D : DD) (a j v : Nat) : DD := (D.1, (a, j, v) :: D.2.1, D.2.2)
def adI (D : DD) (a j m : Nat) (v : Int32) : DD := (D.1, D.2.1, (a, j, m, v) :: D.2.2.1, D.2.2.2)
def adL (D : DD) (a j : Nat) (v : Int64) : DD := (D.1, D.2.1, D.2.2.1, (a, j, v) :: D.2.2.2)
def isO (D : DD) (t ci : Nat) : Bool := decide (8 ≤ t) && decide (D.1[t - 8]? = some (.inl ci))
def isA (D : DD) (a t len : Nat) : Bool := decide (8 ≤ a) && decide (D.1[a - 8]? = some (.inr (t, len)))
section DNM
variable {L n : Nat} {xs : Nat → Int32} {D : DD} {β : Type} {f : AM → Option β} {Q : β → Prop}
theorem M0_len : (M0 L xs).1.length = 8 := rfl
theorem M0_I {a : Nat} (h : 8 ≤ a) (j : Nat) : (M0 L xs).2.1 a j = 0 := by
  match a, h with
  | a + 8, _ => rfl
theorem len_dnm : (mK (dnm L xs D)).length = lnD D := by
  show ((M0 L xs).1 ++ D.1).length = _
  rw [List.length_append, M0_len]; rfl
theorem dnm_K {t : Nat} (h : 8 ≤ t) : (dnm L xs D).1[t]? = D.1[t - 8]? := by
  show ((M0 L xs).1 ++ D.1)[t]? = _
  rw [List.getElem?_append_right (by rw [M0_len]; exact h), M0_len]
theorem fR_none {l : List (Nat × Nat × Nat)} {a m : Nat} (h : l.all (fun e => decide (e.1 < m)) = true) (ha : m ≤ a) (j : Nat) : fR l a j = none := by
  unfold fR
  rw [List.find?_eq_none.mpr (fun e he z => ?_)]; rfl
  have h1 := of_decide_eq_true (List.all_eq_true.mp h e he)
  rw [Bool.and_eq_true, beq_iff_eq] at z
  omega
theorem fI_none {l : List (Nat × Nat × Nat × Int32)} {a m : Nat} (h : l.all (fun e => decide (e.1 < m)) = true) (ha : m ≤ a) (j : Nat) : fI l a j = none := by
  unfold fI
  rw [List.find?_eq_none.mpr (fun e he z => ?_)]; rfl
  have h1 := of_decide_eq_true (List.all_eq_true.mp h e he)
  rw [Bool.and_eq_true, beq_iff_eq] at z
  omega
theorem fL_none {l : List (Nat × Nat × Int64)} {a m : Nat} (h : l.all (fun e => decide (e.1 < m)) = true) (ha : m ≤ a) (j : Nat) : fL l a j = none := by
  unfold fL
  rw [List.find?_eq_none.mpr (fun e he z => ?_)]; rfl
  have h1 := of_decide_eq_true (List.all_eq_true.mp h e he)
  rw [Bool.and_eq_true, beq_iff_eq] at z
  omega
theorem dnm_new {q : Nat ⊕ (Nat × Nat)} (h : okD D = true) : newC (dnm L xs D) q = dnm L xs (adK D q) := by
  unfold okD at h
  rw [Bool.and_eq_true, Bool.and_eq_true] at h
  obtain ⟨h1, h2, h3⟩ := h
  have hl : (dnm L xs D).1.length = lnD D := len_dnm
  have e1 : upf (dnm L xs D).2.1 (lnD D) (fun _ => 0) = (dnm L xs D).2.1 := by
    funext a
    by_cases e : a = lnD D
    · subst e
      rw [upf_same]
      funext j
      show (0 : Int32) = (fI D.2.2.1 (lnD D) j).getD _
      rw [fI_none h2 (Nat.le_refl _), M0_I (by unfold lnD; omega)]; rfl
    · rw [upf_ne _ _ e]
  have e2 : upf (dnm L xs D).2.2.1 (lnD D) (fun _ => 0) = (dnm L xs D).2.2.1 := by
    funext a
    by_cases e : a = lnD D
    · subst e
      rw [upf_same]
      funext j
      show (0 : Int64) = (fL D.2.2.2 (lnD D) j).getD 0
      rw [fL_none h3 (Nat.le_refl _)]; rfl
    · rw [upf_ne _ _ e]
  have e3 : upf (dnm L xs D).2.2.2 (lnD D) (fun _ => none) = (dnm L xs D).2.2.2 := by
    funext a
    by_cases e : a = lnD D
    · subst e
      rw [upf_same]
      funext j
      show none = fR D.2.1 (lnD D) j
      rw [fR_none h1 (Nat.le_refl _)]
    · rw [upf_ne _ _ e]
  unfold newC
  rw [hl, e1, e2, e3]
  show ((M0 L xs).1 ++ D.1 ++ [q], _, _, _) = ((M0 L xs).1 ++ (D.1 ++ [q]), _, _, _)
  rw [List.append_assoc]; rfl
theorem dnm_setI {a j : Nat} {v : Int32} : setI (dnm L xs D) a j v = dnm L xs (adI D a j 1 v) := by
  have e : upf (dnm L xs D).2.1 a (upf ((dnm L xs D).2.1 a) j v) = (dnm L xs (adI D a j 1 v)).2.1 := by
    funext b i
    show _ = (fI ((a, j, 1, v) :: D.2.2.1) b i).getD _
    unfold fI
    by_cases c : b = a ∧ i = j
    · rw [c.1, c.2, upf_same, upf_same, List.find?_cons_of_pos (by simp)]; rfl
    · rw [List.find?_cons_of_neg (by
        simp only [Bool.and_eq_true, beq_iff_eq, decide_eq_true_eq]
        omega)]
      by_cases c2 : b = a
      · subst c2
        rw [upf_same, upf_ne _ _ (fun z => c ⟨rfl, z⟩)]; rfl
      · rw [upf_ne _ _ c2]; rfl
  unfold setI
  rw [e]; rfl
theorem dnm_setL {a j : Nat} {v : Int64} : setL (dnm L xs D) a j v = dnm L xs (adL D a j v) := by
  have e : upf (dnm L xs D).2.2.1 a (upf ((dnm L xs D).2.2.1 a) j v) = (dnm L xs (adL D a j v)).2.2.1 := by
    funext b i
    show _ = (fL ((a, j, v) :: D.2.2.2) b i).getD 0
    unfold fL
    by_cases c : b = a ∧ i = j
    · rw [c.1, c.2, upf_same, upf_same, List.find?_cons_of_pos (by simp)]; rfl
    · rw [List.find?_cons_of_neg (by
        simp only [Bool.and_eq_true, beq_iff_eq]
        omega)]
      by_cases c2 : b = a
      · subst c2
        rw [upf_same, upf_ne _ _ (fun z => c ⟨rfl, z⟩)]; rfl
      · rw [upf_ne _ _ c2]; rfl
  unfold setL
  rw [e]; rfl
theorem dnm_setR {a j v : Nat} : setR (dnm L xs D) a j (some v) = dnm L xs (adR D a j v) := by
  have e : upf (dnm L xs D).2.2.2 a (upf ((dnm L xs D).2.2.2 a) j (some v)) = (dnm L xs (adR D a j v)).2.2.2 := by
    funext b i
    show _ = fR ((a, j, v) :: D.2.1) b i
    unfold fR
    by_cases c : b = a ∧ i = j
    · rw [c.1, c.2, upf_same, upf_same, List.find?_cons_of_pos (by simp)]; rfl
    · rw [List.find?_cons_of_neg (by
        simp only [Bool.and_eq_true, beq_iff_eq]
        omega)]
      by_cases c2 : b = a
      · subst c2
        rw [upf_same, upf_ne _ _ (fun z => c ⟨rfl, z⟩)]; rfl
      · rw [upf_ne _ _ c2]; rfl
  unfold setR
  rw [e]; rfl
theorem isO_K {t ci : Nat} (h : isO D t ci = true) : (dnm L xs D).1[t]? = some (.inl ci) ∧ 8 ≤ t := by
  unfold isO at h
  rw [Bool.and_eq_true, decide_eq_true_eq, decide_eq_true_eq] at h
  exact ⟨by rw [dnm_K h.1]; exact h.2, h.1⟩
theorem isA_K {a t len : Nat} (h : isA D a t len = true) : (dnm L xs D).1[a]? = some (.inr (t, len)) ∧ 8 ≤ a := by
  unfold isA at h
  rw [Bool.and_eq_true, decide_eq_true_eq, decide_eq_true_eq] at h
  exact ⟨by rw [dnm_K h.1]; exact h.2, h.1⟩
theorem y_rdK {M : AM} {a i q len : Nat} {ok : Nat → Bool} (hk : M.1[a]? = some (.inr (q, len))) (hq : ok q = true) (hi : i < len) (hl : len < 2 ^ 31) : rdK M a (nI i) ok = true :=
  rdK_of (K := M.1) (R := M.2.2.2) (S := (M.2.1, M.2.2.1)) hk hq ⟨nI_pos' (by omega), by rw [nI_clamp (by omega)]; exact hi⟩
theorem y_ob {ci : Nat} (h : okD D = true) (k : Ok (f (dnm L xs (adK D (.inl ci)))) Q) : Ok ((nOb ci (dnm L xs D)).bind f) Q := by
  refine Ok.step (x := dnm L xs (adK D (.inl ci))) ?_ k
  unfold nOb
  rw [if_pos (by show 8 ≤ (mK (dnm L xs D)).length; rw [len_dnm]; exact Nat.le_add_right _ _), dnm_new h]
theorem y_ar {t m : Nat} {x : Int32} (hx : x.toNatClampNeg = m) (h : (okD D && (decide ((0 : Int32) ≤ x) && decide (m ≤ 1000000))) = true) (k : Ok (f (dnm L xs (adK D (.inr (t, m))))) Q) : Ok ((nAr t (dnm L xs D) x).bind f) Q := by
  rw [Bool.and_eq_true, Bool.and_eq_true, decide_eq_true_eq, decide_eq_true_eq] at h
  subst hx
  refine Ok.step (x := dnm L xs (adK D (.inr (t, x.toNatClampNeg)))) ?_ k
  unfold nAr
  rw [if_pos ⟨h.2.1, h.2.2, by show 8 ≤ (mK (dnm L xs D)).length; rw [len_dnm]; exact Nat.le_add_right _ _⟩, dnm_new h.1]
theorem y_pR {ci j t a a' : Nat} (ha : a = a') (h : isO D t ci = true) (k : Ok (f (dnm L xs (adR D t j a'))) Q) : Ok ((pR ci j (dnm L xs D) t a).bind f) Q := by
  subst ha
  refine Ok.step (x := dnm L xs (adR D t j a)) ?_ k
  unfold pR
  rw [if_pos (isO_K h), dnm_setR]
theorem y_pI {ci j t : Nat} {v : Int32} (h : isO D t ci = true) (k : Ok (f (dnm L xs (adI D t j 1 v))) Q) : Ok ((pI ci j (dnm L xs D) t v).bind f) Q := by
  refine Ok.step (x := dnm L xs (adI D t j 1 v)) ?_ k
  unfold pI
  rw [if_pos (isO_K h), dnm_setI]
theorem y_pZ {ci j t : Nat} {v : Int32} (hv : v = 0 ∨ v = 1) (h : isO D t ci = true) (k : Ok (f (dnm L xs (adI D t j 1 v))) Q) : Ok ((pZ ci j (dnm L xs D) t v).bind f) Q := by
  refine Ok.step (x := dnm L xs (adI D t j 1 v)) ?_ k
  unfold pZ
  obtain ⟨h1, h2⟩ := isO_K (L := L) (xs := xs) h
  rw [if_pos ⟨h1, h2, hv⟩, dnm_setI]
theorem y_rcv {α : Type} {ci t : Nat} {u : Option α} {g : α → Option β} (h : isO D t ci = true) (k : Ok (u.bind g) Q) : Ok ((rcv ci (dnm L xs D) t u).bind g) Q := by
  unfold rcv
  rw [if_pos (isO_K h)]; exact k
theorem y_gR {ci j t v : Nat} {g : Nat → Option β} (h : isO D t ci = true) (h2 : fR D.2.1 t j = some v) (k : Ok (g v) Q) : Ok ((gR ci j (dnm L xs D) t).bind g) Q := by
  refine Ok.step (x := v) ?_ k
  unfold gR
  rw [if_pos (isO_K h)]; exact h2
theorem y_wI {a a' i len : Nat} {x v : Int32} (ha : a = a') (hx : x = nI i) (h : isA D a' 0 len = true) (hi : i < len) (hl : len < 2 ^ 31) (k : Ok (f (dnm L xs (adI D a' i 1 v))) Q) : Ok ((wrI (dnm L xs D) a x v).bind f) Q := by
  subst ha hx
  obtain ⟨h1, h2⟩ := isA_K (L := L) (xs := xs) h
  refine Ok.step (x := dnm L xs (adI D a i 1 v)) ?_ k
  unfold wrI
  rw [if_pos ⟨y_rdK h1 rfl hi hl, h2⟩, nI_clamp (by omega), dnm_setI]
theorem y_wL {a i len : Nat} {x : Int32} {v : Int64} (hx : x = nI i) (h : isA D a 2 len = true) (hi : i < len) (hl : len < 2 ^ 31) (k : Ok (f (dnm L xs (adL D a i v))) Q) : Ok ((wrL (dnm L xs D) a x v).bind f) Q := by
  subst hx
  obtain ⟨h1, h2⟩ := isA_K (L := L) (xs := xs) h
  refine Ok.step (x := dnm L xs (adL D a i v)) ?_ k
  unfold wrL
  rw [if_pos ⟨y_rdK h1 rfl hi hl, h2⟩, nI_clamp (by omega), dnm_setL]
theorem y_fill {a len : Nat} {v : Int32} (h : isA D a 0 len = true) (hn : len < n) (hl : len < 2 ^ 31) (k : Ok (f (dnm L xs (adI D a 0 len v))) Q) : Ok ((F_J7_fill_53178 n (dnm L xs D) a v).bind f) Q := by
  obtain ⟨h1, h2⟩ := isA_K (L := L) (xs := xs) h
  refine Ok.step (x := dnm L xs (adI D a 0 len v)) ?_ k
  have e := F_fill (n := n) (K := (dnm L xs D).1) (R := (dnm L xs D).2.2.2) (S := ((dnm L xs D).2.1, (dnm L xs D).2.2.1)) (v := v) h1 h2 hn hl
  have e2 : upf (dnm L xs D).2.1 a (fun j => if j < len then v else (dnm L xs D).2.1 a j) = (dnm L xs (adI D a 0 len v)).2.1 := by
    funext b i
    show _ = (fI ((a, 0, len, v) :: D.2.2.1) b i).getD _
    unfold fI
    by_cases c : b = a ∧ i < len
    · rw [c.1, upf_same, List.find?_cons_of_pos (by simp [c.2]), if_pos c.2]; rfl
    · rw [List.find?_cons_of_neg (by
        simp only [Bool.and_eq_true, beq_iff_eq, decide_eq_true_eq]
        omega)]
      by_cases c2 : b = a
      · subst c2
        rw [upf_same, if_neg (fun z => c ⟨rfl, z⟩)]; rfl
      · rw [upf_ne _ _ c2]; rfl
  refine e.trans ?_
  show some ((dnm L xs D).1, upf (dnm L xs D).2.1 a (fun j => if j < len then v else (dnm L xs D).2.1 a j), (dnm L xs D).2.2.1, (dnm L xs D).2.2.2) = _
  rw [e2]; rfl
theorem y_sub {α : Type} {o : Option α} {g : α → Option β} (h : Ok o (fun x => Ok (g x) Q)) : Ok (o.bind g) Q := by
  obtain ⟨x, e, h⟩ := h
  rw [e]; exact h
theorem y_len {m : Nat} (h : lnD D = m) : (mK (dnm L xs D)).length = m := len_dnm.trans h
theorem y_a1 {α : Type} {F : Nat → Option α} {g : α → Option β} {a a' : Nat} (ha : a = a') (k : Ok (F a') (fun x => Ok (g x) Q)) : Ok ((F a).bind g) Q := by
  subst ha; exact y_sub k
theorem y_a2 {α : Type} {F : Nat → Nat → Option α} {g : α → Option β} {a a' b : Nat} (ha : a = a') (k : Ok (F a' b) (fun x => Ok (g x) Q)) : Ok ((F a b).bind g) Q := by
  subst ha; exact y_sub k
/-! words -/
def apV (x : Int64) (c : Int32) : Int64 := if c = 0 then x else (27 : Int64) * x + ((c - (97 : Int32)) + (1 : Int32)).toInt64
def wdV (a b c d e f g : Int32) : Int64 := apV (apV (apV (apV (apV (apV (apV 0 a) b) c) d) e) f) g
theorem y_app {M : AM} {x : Int64} {c : Int32} : F_X12_appends n M x c = some (apV x c) := by
  unfold F_X12_appends apV
  simp only [jn]
  split <;> rfl
theorem y_word {M : AM} {a b c d e f' g : Int32} {h : Int64 → Option β} (k : Ok (h (wdV a b c d e f' g)) Q) : Ok ((F_X12_word n M a b c d e f' g).bind h) Q := by
  refine Ok.step ?_ k
  unfold F_X12_word
  rw [y_app, Option.bind_some, y_app, Option.bind_some, y_app, Option.bind_some, y_app, Option.bind_some, y_app, Option.bind_some, y_app, Option.bind_some, y_app, Option.bind_some]; rfl
end DNM
