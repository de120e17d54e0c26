/-! ===== the judge's constructor ===== -/
section X12I
variable {L n : Nat} {xs : Nat → Int32}
def E_22 : DD := (adL (adL (adL (adL (adL (adL (adL (adL (adL (adL (adL (adL (adL (adL (adL (adL (adL (adL (adL (adL (adR (adK (adR (adK (adR (adK (adR (adK (adR (adK (adR (adI (adI (adI (adK (adR (adK (adR (adK (adR (adK (adR (adK (adR (adK (adR (adK (adR (adK (adI (adR (adK (adR (adK (adR (adK (adR (adK (adR (adK (adR (adK (adR (adK (adR (adK (adR (adK (adR (adK (adR (adK (adR (adK (adR (adK (adR (adK (adR (adK (adR (adK (adR (adK (adR (adK (adR (adK (adR (adK (adR (adK (adR (adK (adR (adK (adR (adK (adR (adK (adR (adK (adR (adK (adR (adK (adR (adK (adR (adK (adR (adK (adR (adK (adR (adK (adR (adK (adR (adK (adR (adK (adR (adK (adR (adK (adR (adK (adR (adK (adR (adK (adR (adK (adR (adK (adR (adK (adR (adK (adI (adR (adK (adR (adK (adR (adK (adR (adK (adR (adK (adR (adK (adR (adK (adK E_0 (.inl 12)) (.inr (1, 2000))) 95 1 96) (.inr (1, 2000))) 95 3 97) (.inr (0, 403))) 95 5 98) (.inr (0, 403))) 95 6 99) (.inr (0, 403))) 95 7 100) (.inr (2, 403))) 95 8 101) (.inr (2, 20))) 95 9 102) 95 17 1 (-1 : Int32)) (.inr (2, 32))) 95 21 103) (.inr (0, 32))) 95 22 104) (.inr (0, 32))) 95 23 105) (.inr (0, 16))) 95 24 106) (.inr (0, 2))) 95 25 107) (.inr (0, 20))) 95 26 108) (.inr (0, 20))) 95 27 109) (.inr (0, 12))) 95 28 110) (.inr (0, 16))) 95 29 111) (.inr (0, 16))) 95 30 112) (.inr (0, 40))) 95 31 113) (.inr (0, 40))) 95 32 114) (.inr (0, 40))) 95 33 115) (.inr (0, 40))) 95 34 116) (.inr (0, 24))) 95 35 117) (.inr (0, 24))) 95 36 118) (.inr (0, 24))) 95 37 119) (.inr (0, 24))) 95 38 120) (.inr (0, 24))) 95 39 121) (.inr (0, 12))) 95 40 122) (.inr (0, 12))) 95 41 123) (.inr (0, 8))) 95 42 124) (.inr (0, 4))) 95 43 125) (.inr (0, 16))) 95 44 126) (.inr (0, 16))) 95 45 127) (.inr (0, 300))) 95 47 128) (.inr (3, 300))) 95 48 129) (.inr (3, 300))) 95 49 130) (.inr (0, 300))) 95 50 131) (.inr (0, 300))) 95 51 132) (.inr (0, 300))) 95 52 133) (.inr (0, 840))) 95 54 134) (.inr (0, 840))) 95 55 135) (.inr (0, 64))) 95 56 136) (.inr (0, 4))) 95 58 137) (.inr (0, 400))) 95 59 138) (.inr (0, 30))) 95 63 139) (.inr (0, 30))) 95 64 140) (.inr (0, 30))) 95 65 141) (.inr (0, 30))) 95 66 142) (.inr (0, 30))) 95 67 143) (.inr (0, 250))) 95 68 144) (.inr (0, 30))) 95 69 145) (.inr (0, 600))) 95 70 146) (.inr (0, 6))) 95 71 147) 95 73 1 (-1 : Int32)) (.inr (0, 25))) 95 74 148) (.inr (0, 25600))) 95 75 149) (.inr (0, 160))) 95 77 150) (.inr (0, 160))) 95 78 151) (.inr (0, 160))) 95 79 152) (.inr (0, 160))) 95 80 153) (.inr (0, 10))) 95 81 154) (.inr (0, 3))) 155 0 1 (-1 : Int32)) 155 1 1 (-1 : Int32)) 155 2 1 (-1 : Int32)) 95 88 155) (.inr (0, 90))) 95 89 156) (.inr (0, 90))) 95 90 157) (.inr (0, 90))) 95 91 158) (.inr (0, 90))) 95 92 159) (.inr (0, 90))) 95 93 160) 102 0 (wdV (112 : Int32) (108 : Int32) (97 : Int32) (99 : Int32) (101 : Int32) (0 : Int32) (0 : Int32))) 102 1 (wdV (112 : Int32) (101 : Int32) (114 : Int32) (115 : Int32) (111 : Int32) (110 : Int32) (0 : Int32))) 102 2 (wdV (98 : Int32) (105 : Int32) (114 : Int32) (116 : Int32) (104 : Int32) (0 : Int32) (0 : Int32))) 102 3 (wdV (116 : Int32) (104 : Int32) (105 : Int32) (110 : Int32) (103 : Int32) (0 : Int32) (0 : Int32))) 102 4 (wdV (116 : Int32) (104 : Int32) (105 : Int32) (110 : Int32) (0 : Int32) (0 : Int32) (0 : Int32))) 102 5 (wdV (97 : Int32) (116 : Int32) (0 : Int32) (0 : Int32) (0 : Int32) (0 : Int32) (0 : Int32))) 102 6 (wdV (107 : Int32) (110 : Int32) (111 : Int32) (119 : Int32) (115 : Int32) (0 : Int32) (0 : Int32))) 102 7 (wdV (109 : Int32) (117 : Int32) (115 : Int32) (116 : Int32) (0 : Int32) (0 : Int32) (0 : Int32))) 102 8 (wdV (97 : Int32) (99 : Int32) (116 : Int32) (0 : Int32) (0 : Int32) (0 : Int32) (0 : Int32))) 102 9 (wdV (116 : Int32) (97 : Int32) (115 : Int32) (107 : Int32) (0 : Int32) (0 : Int32) (0 : Int32))) 102 10 (wdV (115 : Int32) (97 : Int32) (121 : Int32) (0 : Int32) (0 : Int32) (0 : Int32) (0 : Int32))) 102 11 (wdV (97 : Int32) (115 : Int32) (107 : Int32) (0 : Int32) (0 : Int32) (0 : Int32) (0 : Int32))) 102 12 (wdV (105 : Int32) (102 : Int32) (0 : Int32) (0 : Int32) (0 : Int32) (0 : Int32) (0 : Int32))) 102 13 (wdV (111 : Int32) (114 : Int32) (0 : Int32) (0 : Int32) (0 : Int32) (0 : Int32) (0 : Int32))) 102 14 (wdV (97 : Int32) (110 : Int32) (100 : Int32) (0 : Int32) (0 : Int32) (0 : Int32) (0 : Int32))) 102 15 (wdV (110 : Int32) (111 : Int32) (116 : Int32) (0 : Int32) (0 : Int32) (0 : Int32) (0 : Int32))) 102 16 (wdV (109 : Int32) (105 : Int32) (110 : Int32) (101 : Int32) (0 : Int32) (0 : Int32) (0 : Int32))) 102 17 (wdV (121 : Int32) (111 : Int32) (117 : Int32) (114 : Int32) (115 : Int32) (0 : Int32) (0 : Int32))) 102 18 (wdV (104 : Int32) (111 : Int32) (117 : Int32) (114 : Int32) (0 : Int32) (0 : Int32) (0 : Int32))) 102 19 (wdV (99 : Int32) (114 : Int32) (111 : Int32) (119 : Int32) (100 : Int32) (0 : Int32) (0 : Int32)))
theorem i_X12_init_22 (hn : 30000 ≤ n) : F_X12_init n (dnm L xs (adK E_0 (.inl 12))) 95 = some (dnm L xs E_22) := by
  unfold F_X12_init
  refine Ok.e ?_
  refine y_ar (m := 2000) (by decide) (by decide +kernel) ?_
  refine y_pR (a' := 96) (y_len (by decide +kernel)) (by decide +kernel) ?_
  refine y_ar (m := 2000) (by decide) (by decide +kernel) ?_
  refine y_pR (a' := 97) (y_len (by decide +kernel)) (by decide +kernel) ?_
  refine y_ar (m := 403) (by decide) (by decide +kernel) ?_
  refine y_pR (a' := 98) (y_len (by decide +kernel)) (by decide +kernel) ?_
  refine y_ar (m := 403) (by decide) (by decide +kernel) ?_
  refine y_pR (a' := 99) (y_len (by decide +kernel)) (by decide +kernel) ?_
  refine y_ar (m := 403) (by decide) (by decide +kernel) ?_
  refine y_pR (a' := 100) (y_len (by decide +kernel)) (by decide +kernel) ?_
  refine y_ar (m := 403) (by decide) (by decide +kernel) ?_
  refine y_pR (a' := 101) (y_len (by decide +kernel)) (by decide +kernel) ?_
  refine y_ar (m := 20) (by decide) (by decide +kernel) ?_
  refine y_pR (a' := 102) (y_len (by decide +kernel)) (by decide +kernel) ?_
  refine y_pI (by decide +kernel) ?_
  refine y_ar (m := 32) (by decide) (by decide +kernel) ?_
  refine y_pR (a' := 103) (y_len (by decide +kernel)) (by decide +kernel) ?_
  refine y_ar (m := 32) (by decide) (by decide +kernel) ?_
  refine y_pR (a' := 104) (y_len (by decide +kernel)) (by decide +kernel) ?_
  refine y_ar (m := 32) (by decide) (by decide +kernel) ?_
  refine y_pR (a' := 105) (y_len (by decide +kernel)) (by decide +kernel) ?_
  refine y_ar (m := 16) (by decide) (by decide +kernel) ?_
  refine y_pR (a' := 106) (y_len (by decide +kernel)) (by decide +kernel) ?_
  refine y_ar (m := 2) (by decide) (by decide +kernel) ?_
  refine y_pR (a' := 107) (y_len (by decide +kernel)) (by decide +kernel) ?_
  refine y_ar (m := 20) (by decide) (by decide +kernel) ?_
  refine y_pR (a' := 108) (y_len (by decide +kernel)) (by decide +kernel) ?_
  refine y_ar (m := 20) (by decide) (by decide +kernel) ?_
  refine y_pR (a' := 109) (y_len (by decide +kernel)) (by decide +kernel) ?_
  refine y_ar (m := 12) (by decide) (by decide +kernel) ?_
  refine y_pR (a' := 110) (y_len (by decide +kernel)) (by decide +kernel) ?_
  refine y_ar (m := 16) (by decide) (by decide +kernel) ?_
  refine y_pR (a' := 111) (y_len (by decide +kernel)) (by decide +kernel) ?_
  refine y_ar (m := 16) (by decide) (by decide +kernel) ?_
  refine y_pR (a' := 112) (y_len (by decide +kernel)) (by decide +kernel) ?_
  refine y_ar (m := 40) (by decide) (by decide +kernel) ?_
  refine y_pR (a' := 113) (y_len (by decide +kernel)) (by decide +kernel) ?_
  refine y_ar (m := 40) (by decide) (by decide +kernel) ?_
  refine y_pR (a' := 114) (y_len (by decide +kernel)) (by decide +kernel) ?_
  refine y_ar (m := 40) (by decide) (by decide +kernel) ?_
  refine y_pR (a' := 115) (y_len (by decide +kernel)) (by decide +kernel) ?_
  refine y_ar (m := 40) (by decide) (by decide +kernel) ?_
  refine y_pR (a' := 116) (y_len (by decide +kernel)) (by decide +kernel) ?_
  refine y_ar (m := 24) (by decide) (by decide +kernel) ?_
  refine y_pR (a' := 117) (y_len (by decide +kernel)) (by decide +kernel) ?_
  refine y_ar (m := 24) (by decide) (by decide +kernel) ?_
  refine y_pR (a' := 118) (y_len (by decide +kernel)) (by decide +kernel) ?_
  refine y_ar (m := 24) (by decide) (by decide +kernel) ?_
  refine y_pR (a' := 119) (y_len (by decide +kernel)) (by decide +kernel) ?_
  refine y_ar (m := 24) (by decide) (by decide +kernel) ?_
  refine y_pR (a' := 120) (y_len (by decide +kernel)) (by decide +kernel) ?_
  refine y_ar (m := 24) (by decide) (by decide +kernel) ?_
  refine y_pR (a' := 121) (y_len (by decide +kernel)) (by decide +kernel) ?_
  refine y_ar (m := 12) (by decide) (by decide +kernel) ?_
  refine y_pR (a' := 122) (y_len (by decide +kernel)) (by decide +kernel) ?_
  refine y_ar (m := 12) (by decide) (by decide +kernel) ?_
  refine y_pR (a' := 123) (y_len (by decide +kernel)) (by decide +kernel) ?_
  refine y_ar (m := 8) (by decide) (by decide +kernel) ?_
  refine y_pR (a' := 124) (y_len (by decide +kernel)) (by decide +kernel) ?_
  refine y_ar (m := 4) (by decide) (by decide +kernel) ?_
  refine y_pR (a' := 125) (y_len (by decide +kernel)) (by decide +kernel) ?_
  refine y_ar (m := 16) (by decide) (by decide +kernel) ?_
  refine y_pR (a' := 126) (y_len (by decide +kernel)) (by decide +kernel) ?_
  refine y_ar (m := 16) (by decide) (by decide +kernel) ?_
  refine y_pR (a' := 127) (y_len (by decide +kernel)) (by decide +kernel) ?_
  refine y_ar (m := 300) (by decide) (by decide +kernel) ?_
  refine y_pR (a' := 128) (y_len (by decide +kernel)) (by decide +kernel) ?_
  refine y_ar (m := 300) (by decide) (by decide +kernel) ?_
  refine y_pR (a' := 129) (y_len (by decide +kernel)) (by decide +kernel) ?_
  refine y_ar (m := 300) (by decide) (by decide +kernel) ?_
  refine y_pR (a' := 130) (y_len (by decide +kernel)) (by decide +kernel) ?_
  refine y_ar (m := 300) (by decide) (by decide +kernel) ?_
  refine y_pR (a' := 131) (y_len (by decide +kernel)) (by decide +kernel) ?_
  refine y_ar (m := 300) (by decide) (by decide +kernel) ?_
  refine y_pR (a' := 132) (y_len (by decide +kernel)) (by decide +kernel) ?_
  refine y_ar (m := 300) (by decide) (by decide +kernel) ?_
  refine y_pR (a' := 133) (y_len (by decide +kernel)) (by decide +kernel) ?_
  refine y_ar (m := 840) (by decide) (by decide +kernel) ?_
  refine y_pR (a' := 134) (y_len (by decide +kernel)) (by decide +kernel) ?_
  refine y_ar (m := 840) (by decide) (by decide +kernel) ?_
  refine y_pR (a' := 135) (y_len (by decide +kernel)) (by decide +kernel) ?_
  refine y_ar (m := 64) (by decide) (by decide +kernel) ?_
  refine y_pR (a' := 136) (y_len (by decide +kernel)) (by decide +kernel) ?_
  refine y_ar (m := 4) (by decide) (by decide +kernel) ?_
  refine y_pR (a' := 137) (y_len (by decide +kernel)) (by decide +kernel) ?_
  refine y_ar (m := 400) (by decide) (by decide +kernel) ?_
  refine y_pR (a' := 138) (y_len (by decide +kernel)) (by decide +kernel) ?_
  refine y_ar (m := 30) (by decide) (by decide +kernel) ?_
  refine y_pR (a' := 139) (y_len (by decide +kernel)) (by decide +kernel) ?_
  refine y_ar (m := 30) (by decide) (by decide +kernel) ?_
  refine y_pR (a' := 140) (y_len (by decide +kernel)) (by decide +kernel) ?_
  refine y_ar (m := 30) (by decide) (by decide +kernel) ?_
  refine y_pR (a' := 141) (y_len (by decide +kernel)) (by decide +kernel) ?_
  refine y_ar (m := 30) (by decide) (by decide +kernel) ?_
  refine y_pR (a' := 142) (y_len (by decide +kernel)) (by decide +kernel) ?_
  refine y_ar (m := 30) (by decide) (by decide +kernel) ?_
  refine y_pR (a' := 143) (y_len (by decide +kernel)) (by decide +kernel) ?_
  refine y_ar (m := 250) (by decide) (by decide +kernel) ?_
  refine y_pR (a' := 144) (y_len (by decide +kernel)) (by decide +kernel) ?_
  refine y_ar (m := 30) (by decide) (by decide +kernel) ?_
  refine y_pR (a' := 145) (y_len (by decide +kernel)) (by decide +kernel) ?_
  refine y_ar (m := 600) (by decide) (by decide +kernel) ?_
  refine y_pR (a' := 146) (y_len (by decide +kernel)) (by decide +kernel) ?_
  refine y_ar (m := 6) (by decide) (by decide +kernel) ?_
  refine y_pR (a' := 147) (y_len (by decide +kernel)) (by decide +kernel) ?_
  refine y_pI (by decide +kernel) ?_
  refine y_ar (m := 25) (by decide) (by decide +kernel) ?_
  refine y_pR (a' := 148) (y_len (by decide +kernel)) (by decide +kernel) ?_
  refine y_ar (m := 25600) (by decide) (by decide +kernel) ?_
  refine y_pR (a' := 149) (y_len (by decide +kernel)) (by decide +kernel) ?_
  refine y_ar (m := 160) (by decide) (by decide +kernel) ?_
  refine y_pR (a' := 150) (y_len (by decide +kernel)) (by decide +kernel) ?_
  refine y_ar (m := 160) (by decide) (by decide +kernel) ?_
  refine y_pR (a' := 151) (y_len (by decide +kernel)) (by decide +kernel) ?_
  refine y_ar (m := 160) (by decide) (by decide +kernel) ?_
  refine y_pR (a' := 152) (y_len (by decide +kernel)) (by decide +kernel) ?_
  refine y_ar (m := 160) (by decide) (by decide +kernel) ?_
  refine y_pR (a' := 153) (y_len (by decide +kernel)) (by decide +kernel) ?_
  refine y_ar (m := 10) (by decide) (by decide +kernel) ?_
  refine y_pR (a' := 154) (y_len (by decide +kernel)) (by decide +kernel) ?_
  refine y_ar (m := 3) (by decide) (by decide +kernel) ?_
  refine y_wI (a' := 155) (i := 0) (len := 3) (y_len (by decide +kernel)) rfl (by decide +kernel) (by decide) (by decide) ?_
  refine y_wI (a' := 155) (i := 1) (len := 3) (y_len (by decide +kernel)) rfl (by decide +kernel) (by decide) (by decide) ?_
  refine y_wI (a' := 155) (i := 2) (len := 3) (y_len (by decide +kernel)) rfl (by decide +kernel) (by decide) (by decide) ?_
  refine y_pR (a' := 155) (y_len (by decide +kernel)) (by decide +kernel) ?_
  refine y_ar (m := 90) (by decide) (by decide +kernel) ?_
  refine y_pR (a' := 156) (y_len (by decide +kernel)) (by decide +kernel) ?_
  refine y_ar (m := 90) (by decide) (by decide +kernel) ?_
  refine y_pR (a' := 157) (y_len (by decide +kernel)) (by decide +kernel) ?_
  refine y_ar (m := 90) (by decide) (by decide +kernel) ?_
  refine y_pR (a' := 158) (y_len (by decide +kernel)) (by decide +kernel) ?_
  refine y_ar (m := 90) (by decide) (by decide +kernel) ?_
  refine y_pR (a' := 159) (y_len (by decide +kernel)) (by decide +kernel) ?_
  refine y_ar (m := 90) (by decide) (by decide +kernel) ?_
  refine y_pR (a' := 160) (y_len (by decide +kernel)) (by decide +kernel) ?_
  refine y_gR (v := 102) (by decide +kernel) (by decide +kernel) ?_
  refine y_word ?_
  refine y_wL (i := 0) (len := 20) rfl (by decide +kernel) (by decide) (by decide) ?_
  refine y_gR (v := 102) (by decide +kernel) (by decide +kernel) ?_
  refine y_word ?_
  refine y_wL (i := 1) (len := 20) rfl (by decide +kernel) (by decide) (by decide) ?_
  refine y_gR (v := 102) (by decide +kernel) (by decide +kernel) ?_
  refine y_word ?_
  refine y_wL (i := 2) (len := 20) rfl (by decide +kernel) (by decide) (by decide) ?_
  refine y_gR (v := 102) (by decide +kernel) (by decide +kernel) ?_
  refine y_word ?_
  refine y_wL (i := 3) (len := 20) rfl (by decide +kernel) (by decide) (by decide) ?_
  refine y_gR (v := 102) (by decide +kernel) (by decide +kernel) ?_
  refine y_word ?_
  refine y_wL (i := 4) (len := 20) rfl (by decide +kernel) (by decide) (by decide) ?_
  refine y_gR (v := 102) (by decide +kernel) (by decide +kernel) ?_
  refine y_word ?_
  refine y_wL (i := 5) (len := 20) rfl (by decide +kernel) (by decide) (by decide) ?_
  refine y_gR (v := 102) (by decide +kernel) (by decide +kernel) ?_
  refine y_word ?_
  refine y_wL (i := 6) (len := 20) rfl (by decide +kernel) (by decide) (by decide) ?_
  refine y_gR (v := 102) (by decide +kernel) (by decide +kernel) ?_
  refine y_word ?_
  refine y_wL (i := 7) (len := 20) rfl (by decide +kernel) (by decide) (by decide) ?_
  refine y_gR (v := 102) (by decide +kernel) (by decide +kernel) ?_
  refine y_word ?_
  refine y_wL (i := 8) (len := 20) rfl (by decide +kernel) (by decide) (by decide) ?_
  refine y_gR (v := 102) (by decide +kernel) (by decide +kernel) ?_
  refine y_word ?_
  refine y_wL (i := 9) (len := 20) rfl (by decide +kernel) (by decide) (by decide) ?_
  refine y_gR (v := 102) (by decide +kernel) (by decide +kernel) ?_
  refine y_word ?_
  refine y_wL (i := 10) (len := 20) rfl (by decide +kernel) (by decide) (by decide) ?_
  refine y_gR (v := 102) (by decide +kernel) (by decide +kernel) ?_
  refine y_word ?_
  refine y_wL (i := 11) (len := 20) rfl (by decide +kernel) (by decide) (by decide) ?_
  refine y_gR (v := 102) (by decide +kernel) (by decide +kernel) ?_
  refine y_word ?_
  refine y_wL (i := 12) (len := 20) rfl (by decide +kernel) (by decide) (by decide) ?_
  refine y_gR (v := 102) (by decide +kernel) (by decide +kernel) ?_
  refine y_word ?_
  refine y_wL (i := 13) (len := 20) rfl (by decide +kernel) (by decide) (by decide) ?_
  refine y_gR (v := 102) (by decide +kernel) (by decide +kernel) ?_
  refine y_word ?_
  refine y_wL (i := 14) (len := 20) rfl (by decide +kernel) (by decide) (by decide) ?_
  refine y_gR (v := 102) (by decide +kernel) (by decide +kernel) ?_
  refine y_word ?_
  refine y_wL (i := 15) (len := 20) rfl (by decide +kernel) (by decide) (by decide) ?_
  refine y_gR (v := 102) (by decide +kernel) (by decide +kernel) ?_
  refine y_word ?_
  refine y_wL (i := 16) (len := 20) rfl (by decide +kernel) (by decide) (by decide) ?_
  refine y_gR (v := 102) (by decide +kernel) (by decide +kernel) ?_
  refine y_word ?_
  refine y_wL (i := 17) (len := 20) rfl (by decide +kernel) (by decide) (by decide) ?_
  refine y_gR (v := 102) (by decide +kernel) (by decide +kernel) ?_
  refine y_word ?_
  refine y_wL (i := 18) (len := 20) rfl (by decide +kernel) (by decide) (by decide) ?_
  refine y_gR (v := 102) (by decide +kernel) (by decide +kernel) ?_
  refine y_word ?_
  refine y_wL (i := 19) (len := 20) rfl (by decide +kernel) (by decide) (by decide) ?_
  exact Ok.ret rfl
end X12I
