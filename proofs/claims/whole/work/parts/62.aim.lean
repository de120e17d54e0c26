/-! ===== aim: the array of entries comes into being ===== -/
/-- the layout at a time: before and after the entries' array -/
def LyP (K0 K : AK) (R : Nat → Nat → Option Nat) (tw en : Nat) : Prop := Lay K R tw en ∧ K0.length = 161 ∧ ((en = 91 ∧ K = K0) ∨ (en = 161 ∧ K = K0 ++ [.inr (0, 24576)]))
theorem LyP.hE {K0 K : AK} {R : Nat → Nat → Option Nat} {tw : Nat} (h : LyP K0 K R tw 161) : K[161]? = some (.inr (0, 24576)) := by
  rcases h.2.2 with ⟨z, _⟩ | ⟨_, z⟩
  · omega
  · have hl := h.2.1
    rw [z, List.getElem?_append_right (by omega), hl]; rfl
def RNew (R : Nat → Nat → Option Nat) : Nat → Nat → Option Nat := upf (upf R 161 (fun _ => none)) 90 (upf ((upf R 161 (fun _ => none)) 90) 2 (some 161))
set_option maxRecDepth 100000 in
theorem RAll_ne : ∀ q ∈ RAll, q.1 ≠ 161 ∧ (q.1 ≠ 90 ∨ q.2.1 ≠ 2) := by decide
theorem RNew_at {R : Nat → Nat → Option Nat} {a j : Nat} (h : a ≠ 161) (h2 : a ≠ 90 ∨ j ≠ 2) : RNew R a j = R a j := by
  unfold RNew
  by_cases e : a = 90
  · subst e
    rw [upf_same, upf_ne _ _ (by omega), upf_ne _ _ (by omega)]
  · rw [upf_ne _ _ e, upf_ne _ _ h]
theorem RNew_90 {R : Nat → Nat → Option Nat} : RNew R 90 2 = some 161 := by
  unfold RNew
  rw [upf_same, upf_same]
theorem LyP.new {K0 K : AK} {R : Nat → Nat → Option Nat} {tw : Nat} (h : LyP K0 K R tw 91) : LyP K0 (K0 ++ [.inr (0, 24576)]) (RNew R) tw 161 := by
  obtain ⟨⟨h1, h2, h3, h4, h5, h6⟩, hl, hk⟩ := h
  have ek : K = K0 := by
    rcases hk with ⟨_, z⟩ | ⟨z, _⟩
    · exact z
    · omega
  subst ek
  refine ⟨⟨fun k hk1 hk2 => ?_, fun q hq => ?_, ?_, ?_, h5, RNew_90⟩, hl, Or.inr ⟨rfl, rfl⟩⟩
  · rw [List.getElem?_append_left (by omega)]; exact h1 k hk1 hk2
  · have := RAll_ne q hq
    rw [RNew_at this.1 this.2]; exact h2 q hq
  · rw [RNew_at (by omega) (by omega)]; exact h3
  · rw [RNew_at (by omega) (by omega)]; exact h4
section AIM
variable {W : VW} {V : VL} {tw en sd : Nat} {n : Nat} {S : ST} {K0 K : AK} {R : Nat → Nat → Option Nat}
/-- what aim does when the array is there -/
def aimB (n : Nat) (q t : Int32) (M3 : AM) : Option AM := (gI 0 0 M3 90).bind fun v4 => jn ((pI 0 0 M3 90 q).bind fun M5 => (pI 0 1 M5 90 t).bind fun M6 => (gR 0 2 M6 90).bind fun v7 => (F_J7_fill_53178 n M6 v7 (-1 : Int32)).bind fun M9 => some M9) fun j10 => if q = v4 then (gI 0 1 M3 90).bind fun v12 => if t = v12 then some M3 else j10 else j10
theorem aim_old {q t : Int32} (hL : Lay K R tw 161) (hE : K[161]? = some (.inr (0, 24576))) : F_X0_aim n (mkM K R S) 90 q t = aimB n q t (mkM K R S) := by
  have k90 := kd_90 hL
  have e1 : gR 0 2 (mkM K R S) 90 = some 161 := by simp [gR, mkM, k90, hL.2.2.2.2.2]
  have e2 : aln (mkM K R S) 161 = some (Int32.ofNat 24576) := by simp [aln, mkM, hE]
  unfold F_X0_aim
  rw [e1, Option.bind_some, e2, Option.bind_some]
  simp only [jn]
  rw [if_neg (show ¬ Int32.ofNat 24576 = 0 by decide)]
  rfl
theorem aim_new {q t : Int32} (h : LyP K0 K R tw 91) (hz : S.2 161 = fun _ => 0) : F_X0_aim n (mkM K R S) 90 q t = aimB n q t (mkM (K0 ++ [.inr (0, 24576)]) (RNew R) (setC S 161 (fun _ => 0))) := by
  obtain ⟨hL, hl, hk⟩ := h
  have ek : K = K0 := by
    rcases hk with ⟨_, z⟩ | ⟨z, _⟩
    · exact z
    · omega
  subst ek
  have k90 := kd_90 hL
  have k91 := kd_91 hL
  have e1 : gR 0 2 (mkM K R S) 90 = some 91 := by simp [gR, mkM, k90, hL.2.2.2.2.2]
  have e2 : aln (mkM K R S) 91 = some (Int32.ofNat 0) := by simp [aln, mkM, k91]
  have e3 : nAr 0 (mkM K R S) (24576 : Int32) = some (newC (mkM K R S) (.inr (0, 24576))) := by
    unfold nAr
    rw [if_pos ⟨by decide, by decide, by show 8 ≤ K.length; omega⟩]
    rfl
  have e4 : pR 0 2 (newC (mkM K R S) (.inr (0, 24576))) 90 (mK (mkM K R S)).length = some (mkM (K ++ [.inr (0, 24576)]) (RNew R) (setC S 161 (fun _ => 0))) := by
    have k90' : (K ++ [.inr (0, 24576)])[90]? = some (.inl 0) := by rw [List.getElem?_append_left (by omega)]; exact k90
    have hS : upf S.2 161 (fun _ => 0) = S.2 := by
      funext a
      by_cases e : a = 161
      · subst e; rw [upf_same, hz]
      · rw [upf_ne _ _ e]
    unfold pR
    rw [if_pos ⟨k90', by omega⟩]
    show some (K ++ [.inr (0, 24576)], upf S.1 K.length (fun _ => 0), upf S.2 K.length (fun _ => 0), upf (upf R K.length (fun _ => none)) 90 (upf ((upf R K.length (fun _ => none)) 90) 2 (some K.length))) = _
    rw [hl, hS]
    rfl
  unfold F_X0_aim
  rw [e1, Option.bind_some, e2, Option.bind_some]
  simp only [jn]
  rw [if_pos (show Int32.ofNat 0 = 0 by decide), e3, Option.bind_some, e4, Option.bind_some]
  rfl
end AIM
