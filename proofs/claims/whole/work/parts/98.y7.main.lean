/-! ===== the law ===== -/
section PM
variable {L n i : Nat} {xs : Nat → Int32} {α β : Type} {Q : β → Prop}
theorem x_jg {A : α} {f : α → Option β} (J : α → Prop) (h : J A) (k : ∀ j, J j → Ok (f j) Q) : Ok (jn A f) Q := k A h
theorem x_rd0 {M : AM} {g : Int32 → Option β} (hM : RdOk L xs M) (hi : i + 7 ≤ L) (hL : L < 2 ^ 31) (h : Ok (g (xs i)) Q) : Ok ((rdI M 0 (nI i)).bind g) Q := by
  refine Ok.step (x := xs i) ?_ h
  unfold rdI
  rw [if_pos (y_rdK hM.1 rfl (show i < L by omega) hL), nI_clamp (by omega), hM.2]
theorem x_al {M : AM} {g : Int32 → Option β} (hM : RdOk L xs M) (h : Ok (g (nI L)) Q) : Ok ((aln M 0).bind g) Q := by
  refine Ok.step (x := nI L) ?_ h
  unfold aln
  rw [hM.1]; rfl
theorem x_lt (hL : L ≤ 3584) (h : ¬ nI L - (7 : Int32) < nI i) (hi : i ≤ L) : i + 7 ≤ L := by
  refine Nat.le_of_not_lt fun c => h ?_
  by_cases q : L < 7
  · have f : ∀ k, k < 7 → nI k - (7 : Int32) < 0 := by decide
    exact Int32.lt_of_lt_of_le (f L q) (nI_pos' (by omega))
  · obtain ⟨m, rfl⟩ : ∃ m, L = m + 7 := ⟨L - 7, by omega⟩
    have e : nI (m + 7) - (7 : Int32) = nI m := by
      rw [← nI_add]
      exact Int32.add_sub_cancel _ _
    rw [e]
    exact nI_lt (by omega) (by omega)
theorem LI.rd {M : AM} (h : LI L xs M) : RdOk L xs M := by
  obtain ⟨K, R, S, tw, en, sd, W, V, P, N, H, rfl, hLy, hI, hG, hz, hlo⟩ := h
  exact RdOk.of hLy hlo
theorem LI_s : LI L xs (dnm L xs E_22) := ⟨K_s L, R_s, S_s xs, 22, 91, 0, W_s, V_s, _, 0, _, M_s, LyP_s, IV_s, GI_s, S2_s, fun _ _ _ => rfl⟩
theorem Ks_sum : ((K_s L).map slC).sum ≤ L + 200000 := by
  have e : K_s L = .inr (0, L) :: ((M0 0 (fun _ => 0)).1.tail ++ E_22.1) := rfl
  have f : (((M0 0 (fun _ => 0)).1.tail ++ E_22.1).map slC).sum ≤ 200000 := by decide +kernel
  rw [e, List.map_cons, List.sum_cons]
  exact Nat.add_le_add_left f _
theorem LI.end {M : AM} (h : LI L xs M) (hL : L ≤ 3584) : M.1.length ≤ 100000 ∧ nSl M ≤ 7000000 := by
  obtain ⟨K, R, S, tw, en, sd, W, V, P, N, H, rfl, hLy, hI, hG, hz, hlo⟩ := h
  have k1 := K_len (L := L)
  have k2 := Ks_sum (L := L)
  have e1 : (mkM K R S).1 = K := rfl
  unfold nSl
  rw [e1]
  rcases hLy.2.2 with ⟨_, e⟩ | ⟨_, e⟩
  · rw [e]; omega
  · have e3 : ((K_s L ++ [(.inr (0, 24576) : Nat ⊕ (Nat × Nat))]).map slC).sum = ((K_s L).map slC).sum + 24576 := by
      rw [List.map_append, List.sum_append]; rfl
    rw [e, List.length_append, e3]
    show _ + 1 ≤ _ ∧ _
    omega
set_option maxRecDepth 100000 in
set_option maxHeartbeats 4000000 in
theorem pure_main (L : Nat) (xs : Nat → Int32) (hL : L ≤ 3584) : ∃ (n : Nat) (o : Int32 × AM), F_L_law n (M0 L xs) 0 = some o ∧ o.1 = 1 ∧ o.2.1.length ≤ 100000 ∧ nSl o.2 ≤ 7000000 := by
  have hL31 : L < 2 ^ 31 := by omega
  have hn : 30000 ≤ 1000000 := by decide
  refine ⟨1000000, ?_⟩
  show Ok (F_L_law 1000000 (M0 L xs) 0) (fun o => o.1 = 1 ∧ o.2.1.length ≤ 100000 ∧ nSl o.2 ≤ 7000000)
  have l8 : (mK (M0 L xs)).length = 8 := rfl
  have l95 : (mK (dnm L xs E_0)).length = 95 := y_len (by decide +kernel)
  have e1 : nOb 11 (M0 L xs) = some (dnm L xs E_a) := (y_ob (L := L) (xs := xs) (D := ([], [], [], [])) (ci := 11) (f := fun M => some M) (Q := fun x => x = dnm L xs E_a) rfl (Ok.ret rfl)).e
  have e2 : F_X11_init 1000000 (dnm L xs E_a) 8 = some (dnm L xs E_0) := i_X11_init_0 hn
  have e4 : F_X12_init 1000000 (dnm L xs (adK E_0 (.inl 12))) 95 = some (dnm L xs E_22) := i_X12_init_22 hn
  unfold F_L_law
  rw [e1, Option.bind_some, l8, e2, Option.bind_some]
  refine y_ob (by decide +kernel) ?_
  rw [l95, e4, Option.bind_some]
  refine bindW (fun d s => ∃ i, s.1 = nI i ∧ d = L - i ∧ i ≤ L ∧ LI L xs s.2) L (fun z => ∃ M, z = .inl M ∧ LI L xs M) (by omega) ⟨0, rfl, rfl, Nat.zero_le _, LI_s⟩ ?_ ?_
  · rintro d ⟨s1, M⟩ ⟨i, h1, rfl, hi, hM⟩
    have h1 : s1 = nI i := h1
    have hM : LI L xs M := hM
    subst h1
    refine x_al hM.rd ?_
    refine Ok.ifC (fun _ => ?_) (fun c => ?_)
    · exact Ok.inr ⟨M, rfl, hM⟩
    have h7 : i + 7 ≤ L := x_lt hL c hi
    refine x_rd0 hM.rd h7 hL31 ?_
    refine x_jg (fun (j : AM → Option ZL) => ∀ M, LI L xs M → Ok (j M) (Sum.elim (fun s' => ∃ d', d' < L - i ∧ ∃ i, s'.1 = nI i ∧ d' = L - i ∧ i ≤ L ∧ LI L xs s'.2) (fun z => ∃ M, z = .inl M ∧ LI L xs M))) (fun M2 h2 => Ok.inl ⟨L - (i + 7), by omega, i + 7, nI_add i 7, rfl, h7, h2⟩) (fun j12 hj => ?_)
    refine Ok.ifC (fun _ => cs_0 hn h7 hL31 hM hj) (fun _ => ?_)
    refine Ok.ifC (fun _ => cs_1 hn h7 hL31 hM hj) (fun _ => ?_)
    refine Ok.ifC (fun _ => cs_2 hn h7 hL31 hM hj) (fun _ => ?_)
    refine Ok.ifC (fun _ => cs_3 hn h7 hL31 hM hj) (fun _ => ?_)
    refine Ok.ifC (fun _ => cs_4 hn h7 hL31 hM hj) (fun _ => ?_)
    refine Ok.ifC (fun _ => cs_5 hn h7 hL31 hM hj) (fun _ => ?_)
    refine Ok.ifC (fun _ => cs_6 hn h7 hL31 hM hj) (fun _ => ?_)
    refine Ok.ifC (fun _ => cs_7 hn h7 hL31 hM hj) (fun _ => ?_)
    refine Ok.ifC (fun _ => cs_8 hn h7 hL31 hM hj) (fun _ => ?_)
    refine Ok.ifC (fun _ => cs_9 hn h7 hL31 hM hj) (fun _ => ?_)
    refine Ok.ifC (fun _ => cs_10 hn h7 hL31 hM hj) (fun _ => ?_)
    refine Ok.ifC (fun _ => cs_11 hn h7 hL31 hM hj) (fun _ => ?_)
    refine Ok.ifC (fun _ => cs_12 hn h7 hL31 hM hj) (fun _ => ?_)
    refine Ok.ifC (fun _ => cs_13 hn h7 hL31 hM hj) (fun _ => ?_)
    refine Ok.ifC (fun _ => cs_14 hn h7 hL31 hM hj) (fun _ => ?_)
    refine Ok.ifC (fun _ => cs_15 hn h7 hL31 hM hj) (fun _ => ?_)
    refine Ok.ifC (fun _ => cs_16 hn h7 hL31 hM hj) (fun _ => ?_)
    refine Ok.ifC (fun _ => cs_17 hn h7 hL31 hM hj) (fun _ => ?_)
    refine Ok.ifC (fun _ => cs_18 hn h7 hL31 hM hj) (fun _ => ?_)
    refine Ok.ifC (fun _ => cs_19 hn h7 hL31 hM hj) (fun _ => ?_)
    refine Ok.ifC (fun _ => cs_20 hn h7 hL31 hM hj) (fun _ => ?_)
    refine Ok.ifC (fun _ => cs_21 hn h7 hL31 hM hj) (fun _ => ?_)
    refine Ok.ifC (fun _ => cs_22 hn h7 hL31 hM hj) (fun _ => ?_)
    refine Ok.ifC (fun _ => cs_23 hn h7 hL31 hM hj) (fun _ => ?_)
    refine Ok.ifC (fun _ => cs_24 hn h7 hL31 hM hj) (fun _ => ?_)
    refine Ok.ifC (fun _ => cs_25 hn h7 hL31 hM hj) (fun _ => ?_)
    refine Ok.ifC (fun _ => cs_26 hn h7 hL31 hM hj) (fun _ => ?_)
    refine Ok.ifC (fun _ => cs_27 hn h7 hL31 hM hj) (fun _ => ?_)
    refine Ok.ifC (fun _ => cs_28 hn h7 hL31 hM hj) (fun _ => ?_)
    refine Ok.ifC (fun _ => cs_29 hn h7 hL31 hM hj) (fun _ => ?_)
    refine Ok.ifC (fun _ => cs_30 hn h7 hL31 hM hj) (fun _ => ?_)
    refine Ok.ifC (fun _ => cs_31 hn h7 hL31 hM hj) (fun _ => ?_)
    refine Ok.ifC (fun _ => cs_32 hn h7 hL31 hM hj) (fun _ => ?_)
    refine Ok.ifC (fun _ => cs_33 hn h7 hL31 hM hj) (fun _ => ?_)
    refine Ok.ifC (fun _ => cs_34 hn h7 hL31 hM hj) (fun _ => ?_)
    refine Ok.ifC (fun _ => cs_35 hn h7 hL31 hM hj) (fun _ => ?_)
    refine Ok.ifC (fun _ => cs_36 hn h7 hL31 hM hj) (fun _ => ?_)
    refine Ok.ifC (fun _ => cs_37 hn h7 hL31 hM hj) (fun _ => ?_)
    refine Ok.ifC (fun _ => cs_38 hn h7 hL31 hM hj) (fun _ => ?_)
    refine Ok.ifC (fun _ => cs_39 hn h7 hL31 hM hj) (fun _ => ?_)
    refine Ok.ifC (fun _ => cs_40 hn h7 hL31 hM hj) (fun _ => ?_)
    refine Ok.ifC (fun _ => cs_41 hn h7 hL31 hM hj) (fun _ => ?_)
    exact hj M hM
  · rintro z ⟨M, rfl, hM⟩
    exact Ok.ret ⟨rfl, hM.end hL⟩
end PM
