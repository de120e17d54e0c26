/-! ===== the checker's constructor ===== -/
theorem y_call {β : Type} {f : AM → Option β} {Q : β → Prop} {F : Nat → Option AM} {a a' : Nat} {M' : AM} (ha : a = a') (e : F a' = some M') (k : Ok (f M') Q) : Ok ((F a).bind f) Q := by
  subst ha; exact Ok.step e k
section X11I
variable {L n : Nat} {xs : Nat → Int32}
def E_a : DD := ([.inl 11], [], [], [])
def E_p : DD := (adI (adR (adK (adR (adK (adR (adK (adR (adK (adK (adI (adI (adR (adK E_a (.inr (1, 2000))) 8 0 9) 8 1 1 (0 : Int32)) 8 2 1 (-1 : Int32)) (.inl 9)) (.inr (0, 402))) 10 0 11) (.inr (0, 402))) 10 1 12) (.inr (2, 402))) 10 2 13) (.inr (2, 20))) 10 3 14) 10 4 1 (0 : Int32))
def E_1 : DD := (E_p.1, E_p.2.1, E_p.2.2.1, lgs 20)
theorem i_X9_init_1 (hn : 30000 ≤ n) : F_X9_init n (dnm L xs (adK (adI (adI (adR (adK E_a (.inr (1, 2000))) 8 0 9) 8 1 1 (0 : Int32)) 8 2 1 (-1 : Int32)) (.inl 9))) 10 = some (dnm L xs E_1) := by
  unfold F_X9_init
  refine Ok.e ?_
  refine y_ar (m := 402) (by decide) (by decide +kernel) ?_
  refine y_pR (a' := 11) (y_len (by decide +kernel)) (by decide +kernel) ?_
  refine y_ar (m := 402) (by decide) (by decide +kernel) ?_
  refine y_pR (a' := 12) (y_len (by decide +kernel)) (by decide +kernel) ?_
  refine y_ar (m := 402) (by decide) (by decide +kernel) ?_
  refine y_pR (a' := 13) (y_len (by decide +kernel)) (by decide +kernel) ?_
  refine y_ar (m := 20) (by decide) (by decide +kernel) ?_
  refine y_pR (a' := 14) (y_len (by decide +kernel)) (by decide +kernel) ?_
  refine y_pI (by decide +kernel) ?_
  refine tok_loop (A := E_p.1) (B := E_p.2.1) (C := E_p.2.2.1) (by decide +kernel) (by decide +kernel) (by decide +kernel) (by decide +kernel) (by omega) ?_
  exact Ok.ret rfl
def E_2 : DD := (adR (adI (adI (adI (adI (adI (adI (adI (adR (adK (adR (adK (adK (adR E_1 8 3 10) (.inl 2)) (.inr (0, 11))) 15 1 16) (.inr (0, 400))) 15 2 17) 15 3 1 (0 : Int32)) 15 4 1 (0 : Int32)) 15 5 1 (0 : Int32)) 15 6 1 (0 : Int32)) 15 7 1 (0 : Int32)) 15 8 1 (0 : Int32)) 15 9 1 (0 : Int32)) 15 0 10)
theorem i_X2_init_2 (hn : 30000 ≤ n) : F_X2_init n (dnm L xs (adK (adR E_1 8 3 10) (.inl 2))) 15 10 = some (dnm L xs E_2) := by
  unfold F_X2_init
  refine Ok.e ?_
  refine y_ar (m := 11) (by decide) (by decide +kernel) ?_
  refine y_pR (a' := 16) (y_len (by decide +kernel)) (by decide +kernel) ?_
  refine y_ar (m := 400) (by decide) (by decide +kernel) ?_
  refine y_pR (a' := 17) (y_len (by decide +kernel)) (by decide +kernel) ?_
  refine y_pI (by decide +kernel) ?_
  refine y_pI (by decide +kernel) ?_
  refine y_pI (by decide +kernel) ?_
  refine y_pI (by decide +kernel) ?_
  refine y_pZ (.inl rfl) (by decide +kernel) ?_
  refine y_pZ (.inl rfl) (by decide +kernel) ?_
  refine y_pZ (.inl rfl) (by decide +kernel) ?_
  refine y_pR (a' := 10) rfl (by decide +kernel) ?_
  exact Ok.ret rfl
def E_3 : DD := (adR (adI (adI (adI (adR (adK (adR (adK (adR (adK (adK (adR E_2 8 4 15) (.inl 8)) (.inr (2, 32))) 18 1 19) (.inr (0, 32))) 18 2 20) (.inr (0, 32))) 18 3 21) 18 4 1 (0 : Int32)) 18 5 1 (0 : Int32)) 18 6 1 (0 : Int32)) 18 0 10)
theorem i_X8_init_3 (hn : 30000 ≤ n) : F_X8_init n (dnm L xs (adK (adR E_2 8 4 15) (.inl 8))) 18 10 = some (dnm L xs E_3) := by
  unfold F_X8_init
  refine Ok.e ?_
  refine y_ar (m := 32) (by decide) (by decide +kernel) ?_
  refine y_pR (a' := 19) (y_len (by decide +kernel)) (by decide +kernel) ?_
  refine y_ar (m := 32) (by decide) (by decide +kernel) ?_
  refine y_pR (a' := 20) (y_len (by decide +kernel)) (by decide +kernel) ?_
  refine y_ar (m := 32) (by decide) (by decide +kernel) ?_
  refine y_pR (a' := 21) (y_len (by decide +kernel)) (by decide +kernel) ?_
  refine y_pI (by decide +kernel) ?_
  refine y_pI (by decide +kernel) ?_
  refine y_pI (by decide +kernel) ?_
  refine y_pR (a' := 10) rfl (by decide +kernel) ?_
  exact Ok.ret rfl
def E_5 : DD := (adI (adI (adR (adK (adR (adK (adR (adK (adR (adK (adR (adK (adR (adK (adR (adK (adK (adR (adK (adR (adK (adR (adK (adR (adK (adR (adK (adR (adK (adR (adK (adR (adK (adR (adK (adR (adK (adR (adK (adR (adK (adK (adR E_3 8 5 18) (.inl 10)) (.inr (0, 11))) 22 0 23) (.inr (0, 10))) 22 1 24) (.inr (0, 10))) 22 2 25) (.inr (0, 6))) 22 3 26) (.inr (0, 6))) 22 4 27) (.inr (0, 10))) 22 5 28) (.inr (0, 12))) 22 6 29) (.inr (0, 12))) 22 7 30) (.inr (0, 12))) 22 8 31) (.inr (0, 6))) 22 9 32) (.inr (0, 6))) 22 10 33) (.inr (0, 4))) 22 11 34) (.inl 4)) (.inr (0, 400))) 35 0 36) (.inr (0, 400))) 35 1 37) (.inr (0, 8))) 35 2 38) (.inr (0, 8))) 35 3 39) (.inr (0, 2))) 35 4 40) (.inr (0, 4))) 35 5 41) (.inr (0, 32))) 35 6 42) 35 7 1 (0 : Int32)) 35 8 1 (0 : Int32))
theorem i_X4_init_5 (hn : 30000 ≤ n) : F_X4_init n (dnm L xs (adK (adR (adK (adR (adK (adR (adK (adR (adK (adR (adK (adR (adK (adR (adK (adR (adK (adR (adK (adR (adK (adR (adK (adR (adK (adK (adR E_3 8 5 18) (.inl 10)) (.inr (0, 11))) 22 0 23) (.inr (0, 10))) 22 1 24) (.inr (0, 10))) 22 2 25) (.inr (0, 6))) 22 3 26) (.inr (0, 6))) 22 4 27) (.inr (0, 10))) 22 5 28) (.inr (0, 12))) 22 6 29) (.inr (0, 12))) 22 7 30) (.inr (0, 12))) 22 8 31) (.inr (0, 6))) 22 9 32) (.inr (0, 6))) 22 10 33) (.inr (0, 4))) 22 11 34) (.inl 4))) 35 = some (dnm L xs E_5) := by
  unfold F_X4_init
  refine Ok.e ?_
  refine y_ar (m := 400) (by decide) (by decide +kernel) ?_
  refine y_pR (a' := 36) (y_len (by decide +kernel)) (by decide +kernel) ?_
  refine y_ar (m := 400) (by decide) (by decide +kernel) ?_
  refine y_pR (a' := 37) (y_len (by decide +kernel)) (by decide +kernel) ?_
  refine y_ar (m := 8) (by decide) (by decide +kernel) ?_
  refine y_pR (a' := 38) (y_len (by decide +kernel)) (by decide +kernel) ?_
  refine y_ar (m := 8) (by decide) (by decide +kernel) ?_
  refine y_pR (a' := 39) (y_len (by decide +kernel)) (by decide +kernel) ?_
  refine y_ar (m := 2) (by decide) (by decide +kernel) ?_
  refine y_pR (a' := 40) (y_len (by decide +kernel)) (by decide +kernel) ?_
  refine y_ar (m := 4) (by decide) (by decide +kernel) ?_
  refine y_pR (a' := 41) (y_len (by decide +kernel)) (by decide +kernel) ?_
  refine y_ar (m := 32) (by decide) (by decide +kernel) ?_
  refine y_pR (a' := 42) (y_len (by decide +kernel)) (by decide +kernel) ?_
  refine y_pI (by decide +kernel) ?_
  refine y_pI (by decide +kernel) ?_
  exact Ok.ret rfl
def E_7 : DD := (adI (adI (adI (adI (adI (adI (adR (adK (adR (adK (adR (adK (adR (adK (adR E_5 22 12 35) (.inr (0, 240))) 22 13 43) (.inr (0, 144))) 22 14 44) (.inr (0, 144))) 22 15 45) (.inr (0, 240))) 22 16 46) 23 0 11 (0 : Int32)) 27 0 6 (0 : Int32)) 28 0 10 (0 : Int32)) 43 0 240 (-2 : Int32)) 35 7 1 (0 : Int32)) 40 0 2 (0 : Int32))
theorem i_X4_clear_7 (hn : 30000 ≤ n) : F_X4_clear n (dnm L xs (adI (adI (adI (adI (adR (adK (adR (adK (adR (adK (adR (adK (adR E_5 22 12 35) (.inr (0, 240))) 22 13 43) (.inr (0, 144))) 22 14 44) (.inr (0, 144))) 22 15 45) (.inr (0, 240))) 22 16 46) 23 0 11 (0 : Int32)) 27 0 6 (0 : Int32)) 28 0 10 (0 : Int32)) 43 0 240 (-2 : Int32))) 35 = some (dnm L xs E_7) := by
  unfold F_X4_clear
  refine Ok.e ?_
  refine y_pI (by decide +kernel) ?_
  refine y_gR (v := 40) (by decide +kernel) (by decide +kernel) ?_
  refine y_fill (len := 2) (by decide +kernel) (by omega) (by decide) ?_
  exact Ok.ret rfl
def E_6 : DD := E_7
theorem i_X10_clear_6 (hn : 30000 ≤ n) : F_X10_clear n (dnm L xs (adR (adK (adR (adK (adR (adK (adR (adK (adR E_5 22 12 35) (.inr (0, 240))) 22 13 43) (.inr (0, 144))) 22 14 44) (.inr (0, 144))) 22 15 45) (.inr (0, 240))) 22 16 46)) 22 = some (dnm L xs E_6) := by
  unfold F_X10_clear
  refine Ok.e ?_
  refine y_gR (v := 23) (by decide +kernel) (by decide +kernel) ?_
  refine y_fill (len := 11) (by decide +kernel) (by omega) (by decide) ?_
  refine y_gR (v := 27) (by decide +kernel) (by decide +kernel) ?_
  refine y_fill (len := 6) (by decide +kernel) (by omega) (by decide) ?_
  refine y_gR (v := 28) (by decide +kernel) (by decide +kernel) ?_
  refine y_fill (len := 10) (by decide +kernel) (by omega) (by decide) ?_
  refine y_gR (v := 43) (by decide +kernel) (by decide +kernel) ?_
  refine y_fill (len := 240) (by decide +kernel) (by omega) (by decide) ?_
  refine y_gR (v := 35) (by decide +kernel) (by decide +kernel) ?_
  refine y_rcv (by decide +kernel) ?_
  refine y_call (F := fun a => F_X4_clear n (dnm L xs (adI (adI (adI (adI (adR (adK (adR (adK (adR (adK (adR (adK (adR E_5 22 12 35) (.inr (0, 240))) 22 13 43) (.inr (0, 144))) 22 14 44) (.inr (0, 144))) 22 15 45) (.inr (0, 240))) 22 16 46) 23 0 11 (0 : Int32)) 27 0 6 (0 : Int32)) 28 0 10 (0 : Int32)) 43 0 240 (-2 : Int32))) a) rfl (i_X4_clear_7 hn) ?_
  exact Ok.ret rfl
def E_4 : DD := E_6
theorem i_X10_init_4 (hn : 30000 ≤ n) : F_X10_init n (dnm L xs (adK (adR E_3 8 5 18) (.inl 10))) 22 = some (dnm L xs E_4) := by
  unfold F_X10_init
  refine Ok.e ?_
  refine y_ar (m := 11) (by decide) (by decide +kernel) ?_
  refine y_pR (a' := 23) (y_len (by decide +kernel)) (by decide +kernel) ?_
  refine y_ar (m := 10) (by decide) (by decide +kernel) ?_
  refine y_pR (a' := 24) (y_len (by decide +kernel)) (by decide +kernel) ?_
  refine y_ar (m := 10) (by decide) (by decide +kernel) ?_
  refine y_pR (a' := 25) (y_len (by decide +kernel)) (by decide +kernel) ?_
  refine y_ar (m := 6) (by decide) (by decide +kernel) ?_
  refine y_pR (a' := 26) (y_len (by decide +kernel)) (by decide +kernel) ?_
  refine y_ar (m := 6) (by decide) (by decide +kernel) ?_
  refine y_pR (a' := 27) (y_len (by decide +kernel)) (by decide +kernel) ?_
  refine y_ar (m := 10) (by decide) (by decide +kernel) ?_
  refine y_pR (a' := 28) (y_len (by decide +kernel)) (by decide +kernel) ?_
  refine y_ar (m := 12) (by decide) (by decide +kernel) ?_
  refine y_pR (a' := 29) (y_len (by decide +kernel)) (by decide +kernel) ?_
  refine y_ar (m := 12) (by decide) (by decide +kernel) ?_
  refine y_pR (a' := 30) (y_len (by decide +kernel)) (by decide +kernel) ?_
  refine y_ar (m := 12) (by decide) (by decide +kernel) ?_
  refine y_pR (a' := 31) (y_len (by decide +kernel)) (by decide +kernel) ?_
  refine y_ar (m := 6) (by decide) (by decide +kernel) ?_
  refine y_pR (a' := 32) (y_len (by decide +kernel)) (by decide +kernel) ?_
  refine y_ar (m := 6) (by decide) (by decide +kernel) ?_
  refine y_pR (a' := 33) (y_len (by decide +kernel)) (by decide +kernel) ?_
  refine y_ar (m := 4) (by decide) (by decide +kernel) ?_
  refine y_pR (a' := 34) (y_len (by decide +kernel)) (by decide +kernel) ?_
  refine y_ob (by decide +kernel) ?_
  refine y_call (F := fun a => F_X4_init n (dnm L xs (adK (adR (adK (adR (adK (adR (adK (adR (adK (adR (adK (adR (adK (adR (adK (adR (adK (adR (adK (adR (adK (adR (adK (adR (adK (adK (adR E_3 8 5 18) (.inl 10)) (.inr (0, 11))) 22 0 23) (.inr (0, 10))) 22 1 24) (.inr (0, 10))) 22 2 25) (.inr (0, 6))) 22 3 26) (.inr (0, 6))) 22 4 27) (.inr (0, 10))) 22 5 28) (.inr (0, 12))) 22 6 29) (.inr (0, 12))) 22 7 30) (.inr (0, 12))) 22 8 31) (.inr (0, 6))) 22 9 32) (.inr (0, 6))) 22 10 33) (.inr (0, 4))) 22 11 34) (.inl 4))) a) (y_len (by decide +kernel)) (i_X4_init_5 hn) ?_
  refine y_pR (a' := 35) (y_len (by decide +kernel)) (by decide +kernel) ?_
  refine y_ar (m := 240) (by decide) (by decide +kernel) ?_
  refine y_pR (a' := 43) (y_len (by decide +kernel)) (by decide +kernel) ?_
  refine y_ar (m := 144) (by decide) (by decide +kernel) ?_
  refine y_pR (a' := 44) (y_len (by decide +kernel)) (by decide +kernel) ?_
  refine y_ar (m := 144) (by decide) (by decide +kernel) ?_
  refine y_pR (a' := 45) (y_len (by decide +kernel)) (by decide +kernel) ?_
  refine y_ar (m := 240) (by decide) (by decide +kernel) ?_
  refine y_pR (a' := 46) (y_len (by decide +kernel)) (by decide +kernel) ?_
  refine y_rcv (by decide +kernel) ?_
  refine y_call (F := fun a => F_X10_clear n (dnm L xs (adR (adK (adR (adK (adR (adK (adR (adK (adR E_5 22 12 35) (.inr (0, 240))) 22 13 43) (.inr (0, 144))) 22 14 44) (.inr (0, 144))) 22 15 45) (.inr (0, 240))) 22 16 46)) a) rfl (i_X10_clear_6 hn) ?_
  exact Ok.ret rfl
def E_9 : DD := (adI (adI (adR (adK (adR (adK (adR (adK (adR (adK (adR (adK (adR (adK (adR (adK (adK (adR (adK (adR (adK (adR (adK (adR (adK (adR (adK (adR (adK (adR (adK (adR (adK (adR (adK (adR (adK (adR (adK (adR (adK (adK (adR E_4 8 6 22) (.inl 10)) (.inr (0, 11))) 47 0 48) (.inr (0, 10))) 47 1 49) (.inr (0, 10))) 47 2 50) (.inr (0, 6))) 47 3 51) (.inr (0, 6))) 47 4 52) (.inr (0, 10))) 47 5 53) (.inr (0, 12))) 47 6 54) (.inr (0, 12))) 47 7 55) (.inr (0, 12))) 47 8 56) (.inr (0, 6))) 47 9 57) (.inr (0, 6))) 47 10 58) (.inr (0, 4))) 47 11 59) (.inl 4)) (.inr (0, 400))) 60 0 61) (.inr (0, 400))) 60 1 62) (.inr (0, 8))) 60 2 63) (.inr (0, 8))) 60 3 64) (.inr (0, 2))) 60 4 65) (.inr (0, 4))) 60 5 66) (.inr (0, 32))) 60 6 67) 60 7 1 (0 : Int32)) 60 8 1 (0 : Int32))
theorem i_X4_init_9 (hn : 30000 ≤ n) : F_X4_init n (dnm L xs (adK (adR (adK (adR (adK (adR (adK (adR (adK (adR (adK (adR (adK (adR (adK (adR (adK (adR (adK (adR (adK (adR (adK (adR (adK (adK (adR E_4 8 6 22) (.inl 10)) (.inr (0, 11))) 47 0 48) (.inr (0, 10))) 47 1 49) (.inr (0, 10))) 47 2 50) (.inr (0, 6))) 47 3 51) (.inr (0, 6))) 47 4 52) (.inr (0, 10))) 47 5 53) (.inr (0, 12))) 47 6 54) (.inr (0, 12))) 47 7 55) (.inr (0, 12))) 47 8 56) (.inr (0, 6))) 47 9 57) (.inr (0, 6))) 47 10 58) (.inr (0, 4))) 47 11 59) (.inl 4))) 60 = some (dnm L xs E_9) := by
  unfold F_X4_init
  refine Ok.e ?_
  refine y_ar (m := 400) (by decide) (by decide +kernel) ?_
  refine y_pR (a' := 61) (y_len (by decide +kernel)) (by decide +kernel) ?_
  refine y_ar (m := 400) (by decide) (by decide +kernel) ?_
  refine y_pR (a' := 62) (y_len (by decide +kernel)) (by decide +kernel) ?_
  refine y_ar (m := 8) (by decide) (by decide +kernel) ?_
  refine y_pR (a' := 63) (y_len (by decide +kernel)) (by decide +kernel) ?_
  refine y_ar (m := 8) (by decide) (by decide +kernel) ?_
  refine y_pR (a' := 64) (y_len (by decide +kernel)) (by decide +kernel) ?_
  refine y_ar (m := 2) (by decide) (by decide +kernel) ?_
  refine y_pR (a' := 65) (y_len (by decide +kernel)) (by decide +kernel) ?_
  refine y_ar (m := 4) (by decide) (by decide +kernel) ?_
  refine y_pR (a' := 66) (y_len (by decide +kernel)) (by decide +kernel) ?_
  refine y_ar (m := 32) (by decide) (by decide +kernel) ?_
  refine y_pR (a' := 67) (y_len (by decide +kernel)) (by decide +kernel) ?_
  refine y_pI (by decide +kernel) ?_
  refine y_pI (by decide +kernel) ?_
  exact Ok.ret rfl
def E_11 : DD := (adI (adI (adI (adI (adI (adI (adR (adK (adR (adK (adR (adK (adR (adK (adR E_9 47 12 60) (.inr (0, 240))) 47 13 68) (.inr (0, 144))) 47 14 69) (.inr (0, 144))) 47 15 70) (.inr (0, 240))) 47 16 71) 48 0 11 (0 : Int32)) 52 0 6 (0 : Int32)) 53 0 10 (0 : Int32)) 68 0 240 (-2 : Int32)) 60 7 1 (0 : Int32)) 65 0 2 (0 : Int32))
theorem i_X4_clear_11 (hn : 30000 ≤ n) : F_X4_clear n (dnm L xs (adI (adI (adI (adI (adR (adK (adR (adK (adR (adK (adR (adK (adR E_9 47 12 60) (.inr (0, 240))) 47 13 68) (.inr (0, 144))) 47 14 69) (.inr (0, 144))) 47 15 70) (.inr (0, 240))) 47 16 71) 48 0 11 (0 : Int32)) 52 0 6 (0 : Int32)) 53 0 10 (0 : Int32)) 68 0 240 (-2 : Int32))) 60 = some (dnm L xs E_11) := by
  unfold F_X4_clear
  refine Ok.e ?_
  refine y_pI (by decide +kernel) ?_
  refine y_gR (v := 65) (by decide +kernel) (by decide +kernel) ?_
  refine y_fill (len := 2) (by decide +kernel) (by omega) (by decide) ?_
  exact Ok.ret rfl
def E_10 : DD := E_11
theorem i_X10_clear_10 (hn : 30000 ≤ n) : F_X10_clear n (dnm L xs (adR (adK (adR (adK (adR (adK (adR (adK (adR E_9 47 12 60) (.inr (0, 240))) 47 13 68) (.inr (0, 144))) 47 14 69) (.inr (0, 144))) 47 15 70) (.inr (0, 240))) 47 16 71)) 47 = some (dnm L xs E_10) := by
  unfold F_X10_clear
  refine Ok.e ?_
  refine y_gR (v := 48) (by decide +kernel) (by decide +kernel) ?_
  refine y_fill (len := 11) (by decide +kernel) (by omega) (by decide) ?_
  refine y_gR (v := 52) (by decide +kernel) (by decide +kernel) ?_
  refine y_fill (len := 6) (by decide +kernel) (by omega) (by decide) ?_
  refine y_gR (v := 53) (by decide +kernel) (by decide +kernel) ?_
  refine y_fill (len := 10) (by decide +kernel) (by omega) (by decide) ?_
  refine y_gR (v := 68) (by decide +kernel) (by decide +kernel) ?_
  refine y_fill (len := 240) (by decide +kernel) (by omega) (by decide) ?_
  refine y_gR (v := 60) (by decide +kernel) (by decide +kernel) ?_
  refine y_rcv (by decide +kernel) ?_
  refine y_call (F := fun a => F_X4_clear n (dnm L xs (adI (adI (adI (adI (adR (adK (adR (adK (adR (adK (adR (adK (adR E_9 47 12 60) (.inr (0, 240))) 47 13 68) (.inr (0, 144))) 47 14 69) (.inr (0, 144))) 47 15 70) (.inr (0, 240))) 47 16 71) 48 0 11 (0 : Int32)) 52 0 6 (0 : Int32)) 53 0 10 (0 : Int32)) 68 0 240 (-2 : Int32))) a) rfl (i_X4_clear_11 hn) ?_
  exact Ok.ret rfl
def E_8 : DD := E_10
theorem i_X10_init_8 (hn : 30000 ≤ n) : F_X10_init n (dnm L xs (adK (adR E_4 8 6 22) (.inl 10))) 47 = some (dnm L xs E_8) := by
  unfold F_X10_init
  refine Ok.e ?_
  refine y_ar (m := 11) (by decide) (by decide +kernel) ?_
  refine y_pR (a' := 48) (y_len (by decide +kernel)) (by decide +kernel) ?_
  refine y_ar (m := 10) (by decide) (by decide +kernel) ?_
  refine y_pR (a' := 49) (y_len (by decide +kernel)) (by decide +kernel) ?_
  refine y_ar (m := 10) (by decide) (by decide +kernel) ?_
  refine y_pR (a' := 50) (y_len (by decide +kernel)) (by decide +kernel) ?_
  refine y_ar (m := 6) (by decide) (by decide +kernel) ?_
  refine y_pR (a' := 51) (y_len (by decide +kernel)) (by decide +kernel) ?_
  refine y_ar (m := 6) (by decide) (by decide +kernel) ?_
  refine y_pR (a' := 52) (y_len (by decide +kernel)) (by decide +kernel) ?_
  refine y_ar (m := 10) (by decide) (by decide +kernel) ?_
  refine y_pR (a' := 53) (y_len (by decide +kernel)) (by decide +kernel) ?_
  refine y_ar (m := 12) (by decide) (by decide +kernel) ?_
  refine y_pR (a' := 54) (y_len (by decide +kernel)) (by decide +kernel) ?_
  refine y_ar (m := 12) (by decide) (by decide +kernel) ?_
  refine y_pR (a' := 55) (y_len (by decide +kernel)) (by decide +kernel) ?_
  refine y_ar (m := 12) (by decide) (by decide +kernel) ?_
  refine y_pR (a' := 56) (y_len (by decide +kernel)) (by decide +kernel) ?_
  refine y_ar (m := 6) (by decide) (by decide +kernel) ?_
  refine y_pR (a' := 57) (y_len (by decide +kernel)) (by decide +kernel) ?_
  refine y_ar (m := 6) (by decide) (by decide +kernel) ?_
  refine y_pR (a' := 58) (y_len (by decide +kernel)) (by decide +kernel) ?_
  refine y_ar (m := 4) (by decide) (by decide +kernel) ?_
  refine y_pR (a' := 59) (y_len (by decide +kernel)) (by decide +kernel) ?_
  refine y_ob (by decide +kernel) ?_
  refine y_call (F := fun a => F_X4_init n (dnm L xs (adK (adR (adK (adR (adK (adR (adK (adR (adK (adR (adK (adR (adK (adR (adK (adR (adK (adR (adK (adR (adK (adR (adK (adR (adK (adK (adR E_4 8 6 22) (.inl 10)) (.inr (0, 11))) 47 0 48) (.inr (0, 10))) 47 1 49) (.inr (0, 10))) 47 2 50) (.inr (0, 6))) 47 3 51) (.inr (0, 6))) 47 4 52) (.inr (0, 10))) 47 5 53) (.inr (0, 12))) 47 6 54) (.inr (0, 12))) 47 7 55) (.inr (0, 12))) 47 8 56) (.inr (0, 6))) 47 9 57) (.inr (0, 6))) 47 10 58) (.inr (0, 4))) 47 11 59) (.inl 4))) a) (y_len (by decide +kernel)) (i_X4_init_9 hn) ?_
  refine y_pR (a' := 60) (y_len (by decide +kernel)) (by decide +kernel) ?_
  refine y_ar (m := 240) (by decide) (by decide +kernel) ?_
  refine y_pR (a' := 68) (y_len (by decide +kernel)) (by decide +kernel) ?_
  refine y_ar (m := 144) (by decide) (by decide +kernel) ?_
  refine y_pR (a' := 69) (y_len (by decide +kernel)) (by decide +kernel) ?_
  refine y_ar (m := 144) (by decide) (by decide +kernel) ?_
  refine y_pR (a' := 70) (y_len (by decide +kernel)) (by decide +kernel) ?_
  refine y_ar (m := 240) (by decide) (by decide +kernel) ?_
  refine y_pR (a' := 71) (y_len (by decide +kernel)) (by decide +kernel) ?_
  refine y_rcv (by decide +kernel) ?_
  refine y_call (F := fun a => F_X10_clear n (dnm L xs (adR (adK (adR (adK (adR (adK (adR (adK (adR E_9 47 12 60) (.inr (0, 240))) 47 13 68) (.inr (0, 144))) 47 14 69) (.inr (0, 144))) 47 15 70) (.inr (0, 240))) 47 16 71)) a) rfl (i_X10_clear_10 hn) ?_
  exact Ok.ret rfl
def E_13 : DD := (adI (adI (adR (adK (adR (adK (adI (adR (adK (adK (adR E_8 8 7 47) (.inl 5)) (.inr (0, 150))) 72 0 73) 72 1 1 (0 : Int32)) (.inr (0, 450))) 72 2 74) (.inr (0, 3))) 72 3 75) 72 1 1 (0 : Int32)) 75 0 3 (-1 : Int32))
theorem i_X5_clear_13 (hn : 30000 ≤ n) : F_X5_clear n (dnm L xs (adR (adK (adR (adK (adI (adR (adK (adK (adR E_8 8 7 47) (.inl 5)) (.inr (0, 150))) 72 0 73) 72 1 1 (0 : Int32)) (.inr (0, 450))) 72 2 74) (.inr (0, 3))) 72 3 75)) 72 = some (dnm L xs E_13) := by
  unfold F_X5_clear
  refine Ok.e ?_
  refine y_pI (by decide +kernel) ?_
  refine y_gR (v := 75) (by decide +kernel) (by decide +kernel) ?_
  refine y_fill (len := 3) (by decide +kernel) (by omega) (by decide) ?_
  exact Ok.ret rfl
def E_12 : DD := E_13
theorem i_X5_init_12 (hn : 30000 ≤ n) : F_X5_init n (dnm L xs (adK (adR E_8 8 7 47) (.inl 5))) 72 = some (dnm L xs E_12) := by
  unfold F_X5_init
  refine Ok.e ?_
  refine y_ar (m := 150) (by decide) (by decide +kernel) ?_
  refine y_pR (a' := 73) (y_len (by decide +kernel)) (by decide +kernel) ?_
  refine y_pI (by decide +kernel) ?_
  refine y_ar (m := 450) (by decide) (by decide +kernel) ?_
  refine y_pR (a' := 74) (y_len (by decide +kernel)) (by decide +kernel) ?_
  refine y_ar (m := 3) (by decide) (by decide +kernel) ?_
  refine y_pR (a' := 75) (y_len (by decide +kernel)) (by decide +kernel) ?_
  refine y_rcv (by decide +kernel) ?_
  refine y_call (F := fun a => F_X5_clear n (dnm L xs (adR (adK (adR (adK (adI (adR (adK (adK (adR E_8 8 7 47) (.inl 5)) (.inr (0, 150))) 72 0 73) 72 1 1 (0 : Int32)) (.inr (0, 450))) 72 2 74) (.inr (0, 3))) 72 3 75)) a) rfl (i_X5_clear_13 hn) ?_
  exact Ok.ret rfl
def E_15 : DD := (adR (adK (adK (adK (adR E_12 8 8 72) (.inl 1)) (.inl 3)) (.inr (0, 60))) 77 0 78)
theorem i_X3_init_15 (hn : 30000 ≤ n) : F_X3_init n (dnm L xs (adK (adK (adR E_12 8 8 72) (.inl 1)) (.inl 3))) 77 = some (dnm L xs E_15) := by
  unfold F_X3_init
  refine Ok.e ?_
  refine y_ar (m := 60) (by decide) (by decide +kernel) ?_
  refine y_pR (a' := 78) (y_len (by decide +kernel)) (by decide +kernel) ?_
  exact Ok.ret rfl
def E_14 : DD := (adI (adI (adR (adK (adR (adK (adR (adK (adR E_15 76 0 77) (.inr (0, 600))) 76 1 79) (.inr (0, 30))) 76 2 80) (.inr (0, 10))) 76 3 81) 76 4 1 (0 : Int32)) 76 5 1 (0 : Int32))
theorem i_X1_init_14 (hn : 30000 ≤ n) : F_X1_init n (dnm L xs (adK (adR E_12 8 8 72) (.inl 1))) 76 = some (dnm L xs E_14) := by
  unfold F_X1_init
  refine Ok.e ?_
  refine y_ob (by decide +kernel) ?_
  refine y_call (F := fun a => F_X3_init n (dnm L xs (adK (adK (adR E_12 8 8 72) (.inl 1)) (.inl 3))) a) (y_len (by decide +kernel)) (i_X3_init_15 hn) ?_
  refine y_pR (a' := 77) (y_len (by decide +kernel)) (by decide +kernel) ?_
  refine y_ar (m := 600) (by decide) (by decide +kernel) ?_
  refine y_pR (a' := 79) (y_len (by decide +kernel)) (by decide +kernel) ?_
  refine y_ar (m := 30) (by decide) (by decide +kernel) ?_
  refine y_pR (a' := 80) (y_len (by decide +kernel)) (by decide +kernel) ?_
  refine y_ar (m := 10) (by decide) (by decide +kernel) ?_
  refine y_pR (a' := 81) (y_len (by decide +kernel)) (by decide +kernel) ?_
  refine y_pI (by decide +kernel) ?_
  refine y_pI (by decide +kernel) ?_
  exact Ok.ret rfl
def E_17 : DD := (adR (adK (adK (adK (adI (adR E_14 8 9 76) 8 10 1 (0 : Int32)) (.inl 1)) (.inl 3)) (.inr (0, 60))) 83 0 84)
theorem i_X3_init_17 (hn : 30000 ≤ n) : F_X3_init n (dnm L xs (adK (adK (adI (adR E_14 8 9 76) 8 10 1 (0 : Int32)) (.inl 1)) (.inl 3))) 83 = some (dnm L xs E_17) := by
  unfold F_X3_init
  refine Ok.e ?_
  refine y_ar (m := 60) (by decide) (by decide +kernel) ?_
  refine y_pR (a' := 84) (y_len (by decide +kernel)) (by decide +kernel) ?_
  exact Ok.ret rfl
def E_16 : DD := (adI (adI (adR (adK (adR (adK (adR (adK (adR E_17 82 0 83) (.inr (0, 600))) 82 1 85) (.inr (0, 30))) 82 2 86) (.inr (0, 10))) 82 3 87) 82 4 1 (0 : Int32)) 82 5 1 (0 : Int32))
theorem i_X1_init_16 (hn : 30000 ≤ n) : F_X1_init n (dnm L xs (adK (adI (adR E_14 8 9 76) 8 10 1 (0 : Int32)) (.inl 1))) 82 = some (dnm L xs E_16) := by
  unfold F_X1_init
  refine Ok.e ?_
  refine y_ob (by decide +kernel) ?_
  refine y_call (F := fun a => F_X3_init n (dnm L xs (adK (adK (adI (adR E_14 8 9 76) 8 10 1 (0 : Int32)) (.inl 1)) (.inl 3))) a) (y_len (by decide +kernel)) (i_X3_init_17 hn) ?_
  refine y_pR (a' := 83) (y_len (by decide +kernel)) (by decide +kernel) ?_
  refine y_ar (m := 600) (by decide) (by decide +kernel) ?_
  refine y_pR (a' := 85) (y_len (by decide +kernel)) (by decide +kernel) ?_
  refine y_ar (m := 30) (by decide) (by decide +kernel) ?_
  refine y_pR (a' := 86) (y_len (by decide +kernel)) (by decide +kernel) ?_
  refine y_ar (m := 10) (by decide) (by decide +kernel) ?_
  refine y_pR (a' := 87) (y_len (by decide +kernel)) (by decide +kernel) ?_
  refine y_pI (by decide +kernel) ?_
  refine y_pI (by decide +kernel) ?_
  exact Ok.ret rfl
def E_18 : DD := (adR (adK (adK (adR E_16 8 11 82) (.inl 7)) (.inr (0, 10))) 88 0 89)
theorem i_X7_init_18 (hn : 30000 ≤ n) : F_X7_init n (dnm L xs (adK (adR E_16 8 11 82) (.inl 7))) 88 = some (dnm L xs E_18) := by
  unfold F_X7_init
  refine Ok.e ?_
  refine y_ar (m := 10) (by decide) (by decide +kernel) ?_
  refine y_pR (a' := 89) (y_len (by decide +kernel)) (by decide +kernel) ?_
  exact Ok.ret rfl
def E_19 : DD := (adR (adK (adI (adI (adK (adR E_18 8 12 88) (.inl 0)) 90 0 1 (-1 : Int32)) 90 1 1 (-1 : Int32)) (.inr (0, 0))) 90 2 91)
theorem i_X0_init_19 (hn : 30000 ≤ n) : F_X0_init n (dnm L xs (adK (adR E_18 8 12 88) (.inl 0))) 90 = some (dnm L xs E_19) := by
  unfold F_X0_init
  refine Ok.e ?_
  refine y_pI (by decide +kernel) ?_
  refine y_pI (by decide +kernel) ?_
  refine y_ar (m := 0) (by decide) (by decide +kernel) ?_
  refine y_pR (a' := 91) (y_len (by decide +kernel)) (by decide +kernel) ?_
  exact Ok.ret rfl
def E_21 : DD := (adR (adK (adK (adK (adR E_19 8 13 90) (.inl 6)) (.inl 3)) (.inr (0, 60))) 93 0 94)
theorem i_X3_init_21 (hn : 30000 ≤ n) : F_X3_init n (dnm L xs (adK (adK (adR E_19 8 13 90) (.inl 6)) (.inl 3))) 93 = some (dnm L xs E_21) := by
  unfold F_X3_init
  refine Ok.e ?_
  refine y_ar (m := 60) (by decide) (by decide +kernel) ?_
  refine y_pR (a' := 94) (y_len (by decide +kernel)) (by decide +kernel) ?_
  exact Ok.ret rfl
def E_20 : DD := (adI (adI (adI (adR E_21 92 0 93) 92 1 1 (0 : Int32)) 92 2 1 (0 : Int32)) 92 3 1 (0 : Int32))
theorem i_X6_init_20 (hn : 30000 ≤ n) : F_X6_init n (dnm L xs (adK (adR E_19 8 13 90) (.inl 6))) 92 = some (dnm L xs E_20) := by
  unfold F_X6_init
  refine Ok.e ?_
  refine y_ob (by decide +kernel) ?_
  refine y_call (F := fun a => F_X3_init n (dnm L xs (adK (adK (adR E_19 8 13 90) (.inl 6)) (.inl 3))) a) (y_len (by decide +kernel)) (i_X3_init_21 hn) ?_
  refine y_pR (a' := 93) (y_len (by decide +kernel)) (by decide +kernel) ?_
  refine y_pI (by decide +kernel) ?_
  refine y_pI (by decide +kernel) ?_
  refine y_pZ (.inl rfl) (by decide +kernel) ?_
  exact Ok.ret rfl
def E_0 : DD := (adR E_20 8 14 92)
theorem i_X11_init_0 (hn : 30000 ≤ n) : F_X11_init n (dnm L xs E_a) 8 = some (dnm L xs E_0) := by
  unfold F_X11_init
  refine Ok.e ?_
  refine y_ar (m := 2000) (by decide) (by decide +kernel) ?_
  refine y_pR (a' := 9) (y_len (by decide +kernel)) (by decide +kernel) ?_
  refine y_pI (by decide +kernel) ?_
  refine y_pI (by decide +kernel) ?_
  refine y_ob (by decide +kernel) ?_
  refine y_call (F := fun a => F_X9_init n (dnm L xs (adK (adI (adI (adR (adK E_a (.inr (1, 2000))) 8 0 9) 8 1 1 (0 : Int32)) 8 2 1 (-1 : Int32)) (.inl 9))) a) (y_len (by decide +kernel)) (i_X9_init_1 hn) ?_
  refine y_pR (a' := 10) (y_len (by decide +kernel)) (by decide +kernel) ?_
  refine y_ob (by decide +kernel) ?_
  refine y_gR (v := 10) (by decide +kernel) (by decide +kernel) ?_
  refine y_call (F := fun a => F_X2_init n (dnm L xs (adK (adR E_1 8 3 10) (.inl 2))) a 10) (y_len (by decide +kernel)) (i_X2_init_2 hn) ?_
  refine y_pR (a' := 15) (y_len (by decide +kernel)) (by decide +kernel) ?_
  refine y_ob (by decide +kernel) ?_
  refine y_gR (v := 10) (by decide +kernel) (by decide +kernel) ?_
  refine y_call (F := fun a => F_X8_init n (dnm L xs (adK (adR E_2 8 4 15) (.inl 8))) a 10) (y_len (by decide +kernel)) (i_X8_init_3 hn) ?_
  refine y_pR (a' := 18) (y_len (by decide +kernel)) (by decide +kernel) ?_
  refine y_ob (by decide +kernel) ?_
  refine y_call (F := fun a => F_X10_init n (dnm L xs (adK (adR E_3 8 5 18) (.inl 10))) a) (y_len (by decide +kernel)) (i_X10_init_4 hn) ?_
  refine y_pR (a' := 22) (y_len (by decide +kernel)) (by decide +kernel) ?_
  refine y_ob (by decide +kernel) ?_
  refine y_call (F := fun a => F_X10_init n (dnm L xs (adK (adR E_4 8 6 22) (.inl 10))) a) (y_len (by decide +kernel)) (i_X10_init_8 hn) ?_
  refine y_pR (a' := 47) (y_len (by decide +kernel)) (by decide +kernel) ?_
  refine y_ob (by decide +kernel) ?_
  refine y_call (F := fun a => F_X5_init n (dnm L xs (adK (adR E_8 8 7 47) (.inl 5))) a) (y_len (by decide +kernel)) (i_X5_init_12 hn) ?_
  refine y_pR (a' := 72) (y_len (by decide +kernel)) (by decide +kernel) ?_
  refine y_ob (by decide +kernel) ?_
  refine y_call (F := fun a => F_X1_init n (dnm L xs (adK (adR E_12 8 8 72) (.inl 1))) a) (y_len (by decide +kernel)) (i_X1_init_14 hn) ?_
  refine y_pR (a' := 76) (y_len (by decide +kernel)) (by decide +kernel) ?_
  refine y_pZ (.inl rfl) (by decide +kernel) ?_
  refine y_ob (by decide +kernel) ?_
  refine y_call (F := fun a => F_X1_init n (dnm L xs (adK (adI (adR E_14 8 9 76) 8 10 1 (0 : Int32)) (.inl 1))) a) (y_len (by decide +kernel)) (i_X1_init_16 hn) ?_
  refine y_pR (a' := 82) (y_len (by decide +kernel)) (by decide +kernel) ?_
  refine y_ob (by decide +kernel) ?_
  refine y_call (F := fun a => F_X7_init n (dnm L xs (adK (adR E_16 8 11 82) (.inl 7))) a) (y_len (by decide +kernel)) (i_X7_init_18 hn) ?_
  refine y_pR (a' := 88) (y_len (by decide +kernel)) (by decide +kernel) ?_
  refine y_ob (by decide +kernel) ?_
  refine y_call (F := fun a => F_X0_init n (dnm L xs (adK (adR E_18 8 12 88) (.inl 0))) a) (y_len (by decide +kernel)) (i_X0_init_19 hn) ?_
  refine y_pR (a' := 90) (y_len (by decide +kernel)) (by decide +kernel) ?_
  refine y_ob (by decide +kernel) ?_
  refine y_call (F := fun a => F_X6_init n (dnm L xs (adK (adR E_19 8 13 90) (.inl 6))) a) (y_len (by decide +kernel)) (i_X6_init_20 hn) ?_
  refine y_pR (a' := 92) (y_len (by decide +kernel)) (by decide +kernel) ?_
  exact Ok.ret rfl
end X11I
