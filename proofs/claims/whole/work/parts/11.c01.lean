-- OnlyUpward$Tokens.scan([BI)V
set_option maxRecDepth 100000 in
set_option maxHeartbeats 4000000 in
def F_X9_scan (n : Nat) (M : AM) (a0 : Nat) (a1 : Nat) (a2 : Int32) : Option AM :=
  (pI 9 4 M a0 (0 : Int32)).bind fun M1 => (iter (fun (s2 : Int32 × AM) => if a2 ≤ s2.1 then some (.inr s2.2) else (gI 9 4 s2.2 a0).bind fun v4 => if (400 : Int32) < v4 then some (.inr s2.2) else (rdB s2.2 a1 s2.1).bind fun v6 => jn (fun (u7 : Int32) (M8 : AM) => some (.inl ((u7 + (1 : Int32)), M8))) fun j9 => if v6 = (32 : Int32) then j9 s2.1 s2.2 else if v6 = (9 : Int32) then j9 s2.1 s2.2 else if v6 = (10 : Int32) then j9 s2.1 s2.2 else if v6 = (13 : Int32) then j9 s2.1 s2.2 else (rcv 9 s2.2 a0 (F_X9_scanOne n s2.2 a0 a1 a2 s2.1)).bind fun v14 => j9 (mxI s2.1 (v14.1 - (1 : Int32))) v14.2) n ((0 : Int32), M1)).bind fun (e2 : AM) => (rcv 9 e2 a0 (F_X9_put n e2 a0 (35 : Int32) a2 (0 : Int64))).bind fun M16 => some M16
set_option maxRecDepth 100000 in
set_option maxHeartbeats 4000000 in
theorem C_X9_scan {n : Nat} {M : AM} {a0 : Nat} {a1 : Nat} {a2 : Int32} {o : AM} (h : F_X9_scan n M a0 a1 a2 = some o) : Cn yX9_scan cX9_scan 5 none 3 [.ref a0, .ref a1, .int a2] M none o := by
  unfold F_X9_scan at h
  refine Cn.of rfl (Nat.le_of_ble_eq_true rfl) ?_
  show G yX9_scan cX9_scan 5 none 3 0 [(0, .ref a0), (1, .ref a1), (2, .int a2)] [] M none o
  refine G.aload_n dX9_scan_0 rfl rfl ?_
  refine G.iconst (0 : Int32) dX9_scan_1 ki_0 ?_
  refine G.putI dX9_scan_2 fkX9_25 nf9_4 ft9_4 h (fun M1 h => ?_)
  refine G.iconst (0 : Int32) dX9_scan_5 ki_0 ?_
  refine G.istore_n (lv' := [(3, .int (0 : Int32)), (0, .ref a0), (1, .ref a1), (2, .int a2)]) dX9_scan_6 rfl (Nat.le_of_ble_eq_true rfl) rfl ?_
  refine G.sub (lv' := [(0, .ref a0), (1, .ref a1), (2, .int a2), (3, .int (0 : Int32))]) [1, 2, 3, 0] rfl ?_
  refine loopE (fun (s2 : Int32 × AM) => G yX9_scan cX9_scan 5 none 3 7 [(0, .ref a0), (1, .ref a1), (2, .int a2), (3, .int s2.1)] [] s2.2 none o) (fun (e2 : AM) => G yX9_scan cX9_scan 5 none 3 75 [(0, .ref a0), (2, .int a2)] [] e2 none o) h ?_ ?_
  · intro e2 h
    show G yX9_scan cX9_scan 5 none 3 75 [(0, .ref a0), (2, .int a2)] [] e2 none o
    refine G.aload_n dX9_scan_75 rfl rfl ?_
    refine G.bipush (35 : Int32) dX9_scan_76 kb_35 ?_
    refine G.iload_n dX9_scan_78 rfl rfl ?_
    refine G.lconst (0 : Int64) dX9_scan_79 rfl ?_
    refine G.callVv (ci := 9) [.int (35 : Int32), .int a2, .long (0 : Int64)] [] dX9_scan_80 lkX9_57 okX9_put rfl (fun v hv => C_X9_put hv) (Nat.le_of_ble_eq_true rfl) rfl rfl (Nat.le_of_ble_eq_true rfl) h (fun M16 h => ?_)
    exact G.vretW dX9_scan_83 rfl h
  · intro s2 x2 h K2
    show G yX9_scan cX9_scan 5 none 3 7 [(0, .ref a0), (1, .ref a1), (2, .int a2), (3, .int s2.1)] [] s2.2 none o
    refine G.iload_n dX9_scan_7 rfl rfl ?_
    refine G.iload_n dX9_scan_8 rfl rfl ?_
    refine G.icmp_ge 75 dX9_scan_9 (by decide) h (fun c3 h => ?_) (fun c3 h => ?_)
    · refine G.sub (lv' := [(0, .ref a0), (2, .int a2)]) [0, 2] rfl ?_
      have h := leafR' h K2
      exact h
    · refine G.aload_n dX9_scan_12 rfl rfl ?_
      refine G.getI dX9_scan_13 fkX9_25 fr9_4 h (fun v4 h => ?_)
      refine G.sipush (400 : Int32) dX9_scan_16 ks_400 ?_
      refine G.icmp_gt 75 dX9_scan_19 (by decide) h (fun c5 h => ?_) (fun c5 h => ?_)
      · refine G.sub (lv' := [(0, .ref a0), (2, .int a2)]) [0, 2] rfl ?_
        have h := leafR' h K2
        exact h
      · refine G.aload_n dX9_scan_22 rfl rfl ?_
        refine G.iload_n dX9_scan_23 rfl rfl ?_
        refine G.bald dX9_scan_24 h (fun v6 h => ?_)
        refine G.istore (lv' := [(4, .int v6), (0, .ref a0), (1, .ref a1), (2, .int a2), (3, .int s2.1)]) dX9_scan_25 (Nat.le_of_ble_eq_true rfl) rfl ?_
        refine G.iload dX9_scan_27 rfl ?_
        refine G.bipush (32 : Int32) dX9_scan_29 kb_32 ?_
        refine jn_elim (fun j9 => ∀ (u7 : Int32) (M8 : AM), j9 u7 M8 = some x2 → G yX9_scan cX9_scan 5 none 3 69 [(0, .ref a0), (1, .ref a1), (2, .int a2), (3, .int u7)] [] M8 none o) h ?_ ?_
        · intro u7 M8 h
          refine G.iinc u7 (w := (u7 + (1 : Int32))) (lv' := [(3, .int (u7 + (1 : Int32))), (0, .ref a0), (1, .ref a1), (2, .int a2)]) dX9_scan_69 rfl rfl (Nat.le_of_ble_eq_true rfl) rfl ?_
          refine G.goto 7 dX9_scan_72 (by decide) ?_
          refine G.sub (lv' := [(0, .ref a0), (1, .ref a1), (2, .int a2), (3, .int (u7 + (1 : Int32)))]) [1, 2, 3, 0] rfl ?_
          have h := leafL' h K2
          exact h
        · intro j9 Jj9 h
          refine G.icmp_eq 69 dX9_scan_31 (by decide) h (fun c10 h => ?_) (fun c10 h => ?_)
          · refine G.sub (lv' := [(0, .ref a0), (1, .ref a1), (2, .int a2), (3, .int s2.1)]) [1, 2, 3, 4] rfl ?_
            exact Jj9 _ _ h
          · refine G.iload dX9_scan_34 rfl ?_
            refine G.bipush (9 : Int32) dX9_scan_36 kb_9 ?_
            refine G.icmp_eq 69 dX9_scan_38 (by decide) h (fun c11 h => ?_) (fun c11 h => ?_)
            · refine G.sub (lv' := [(0, .ref a0), (1, .ref a1), (2, .int a2), (3, .int s2.1)]) [1, 2, 3, 4] rfl ?_
              exact Jj9 _ _ h
            · refine G.iload dX9_scan_41 rfl ?_
              refine G.bipush (10 : Int32) dX9_scan_43 kb_10 ?_
              refine G.icmp_eq 69 dX9_scan_45 (by decide) h (fun c12 h => ?_) (fun c12 h => ?_)
              · refine G.sub (lv' := [(0, .ref a0), (1, .ref a1), (2, .int a2), (3, .int s2.1)]) [1, 2, 3, 4] rfl ?_
                exact Jj9 _ _ h
              · refine G.iload dX9_scan_48 rfl ?_
                refine G.bipush (13 : Int32) dX9_scan_50 kb_13 ?_
                refine G.icmp_eq 69 dX9_scan_52 (by decide) h (fun c13 h => ?_) (fun c13 h => ?_)
                · refine G.sub (lv' := [(0, .ref a0), (1, .ref a1), (2, .int a2), (3, .int s2.1)]) [1, 2, 3, 4] rfl ?_
                  exact Jj9 _ _ h
                · refine G.iload_n dX9_scan_55 rfl rfl ?_
                  refine G.aload_n dX9_scan_56 rfl rfl ?_
                  refine G.aload_n dX9_scan_57 rfl rfl ?_
                  refine G.iload_n dX9_scan_58 rfl rfl ?_
                  refine G.iload_n dX9_scan_59 rfl rfl ?_
                  refine G.callVi (ci := 9) [.ref a1, .int a2, .int s2.1] [.int s2.1] dX9_scan_60 lkX9_47 okX9_scanOne rfl (fun v hv => C_X9_scanOne hv) (Nat.le_of_ble_eq_true rfl) rfl rfl (Nat.le_of_ble_eq_true rfl) h (fun v14 h => ?_)
                  refine G.iconst (1 : Int32) dX9_scan_63 ki_1 ?_
                  refine G.isub dX9_scan_64 ?_
                  refine G.mmax dX9_scan_65 lmX9_51 mm_max_1 mm_2 mm_max_3 (Nat.le_of_ble_eq_true rfl) (Nat.le_of_ble_eq_true rfl) ?_
                  refine G.istore_n (lv' := [(3, .int (mxI s2.1 (v14.1 - (1 : Int32)))), (4, .int v6), (0, .ref a0), (1, .ref a1), (2, .int a2)]) dX9_scan_68 rfl (Nat.le_of_ble_eq_true rfl) rfl ?_
                  refine G.sub (lv' := [(0, .ref a0), (1, .ref a1), (2, .int a2), (3, .int (mxI s2.1 (v14.1 - (1 : Int32))))]) [2, 3, 4, 0] rfl ?_
                  exact Jj9 _ _ h
-- OnlyUpward$Tokens.kindAt(I)I
set_option maxRecDepth 100000 in
set_option maxHeartbeats 4000000 in
def F_X9_kindAt (n : Nat) (M : AM) (a0 : Nat) (a1 : Int32) : Option Int32 :=
  if a1 < 0 then some (35 : Int32) else (gI 9 4 M a0).bind fun v2 => if v2 ≤ a1 then some (35 : Int32) else (gR 9 0 M a0).bind fun v4 => (rdI M v4 a1).bind fun v5 => some v5
set_option maxRecDepth 100000 in
set_option maxHeartbeats 4000000 in
theorem C_X9_kindAt {n : Nat} {M : AM} {a0 : Nat} {a1 : Int32} {o : Int32} (h : F_X9_kindAt n M a0 a1 = some o) : Cn yX9_kindAt cX9_kindAt 2 (some .int) 0 [.ref a0, .int a1] M (some (.int o)) M := by
  unfold F_X9_kindAt at h
  refine Cn.of rfl (Nat.le_of_ble_eq_true rfl) ?_
  show G yX9_kindAt cX9_kindAt 2 (some .int) 0 0 [(0, .ref a0), (1, .int a1)] [] M (some (.int o)) M
  refine G.iload_n dX9_kindAt_0 rfl rfl ?_
  refine G.if_lt 21 dX9_kindAt_1 (by decide) h (fun c1 h => ?_) (fun c1 h => ?_)
  · refine G.bipush (35 : Int32) dX9_kindAt_21 kb_35 ?_
    exact G.iret dX9_kindAt_23 rfl (rfl) h
  · refine G.iload_n dX9_kindAt_4 rfl rfl ?_
    refine G.aload_n dX9_kindAt_5 rfl rfl ?_
    refine G.getI dX9_kindAt_6 fkX9_25 fr9_4 h (fun v2 h => ?_)
    refine G.icmp_ge 21 dX9_kindAt_9 (by decide) h (fun c3 h => ?_) (fun c3 h => ?_)
    · refine G.bipush (35 : Int32) dX9_kindAt_21 kb_35 ?_
      exact G.iret dX9_kindAt_23 rfl (rfl) h
    · refine G.aload_n dX9_kindAt_12 rfl rfl ?_
      refine G.getR dX9_kindAt_13 fkX9_9 fr9_0 h (fun v4 h => ?_)
      refine G.iload_n dX9_kindAt_16 rfl rfl ?_
      refine G.iald dX9_kindAt_17 h (fun v5 h => ?_)
      refine G.goto 23 dX9_kindAt_18 (by decide) ?_
      exact G.iret dX9_kindAt_23 rfl (rfl) h
-- OnlyUpward$Grammar.take(I)V
set_option maxRecDepth 100000 in
set_option maxHeartbeats 4000000 in
def F_X2_take (n : Nat) (M : AM) (a0 : Nat) (a1 : Int32) : Option AM :=
  (gI 2 5 M a0).bind fun v1 => if v1 = 0 then (gR 2 0 M a0).bind fun v3 => (gI 2 4 M a0).bind fun v4 => (rcv 9 M v3 (F_X9_kindAt n M v3 v4)).bind fun v5 => if v5 = a1 then (gI 2 4 M a0).bind fun v7 => if v7 < (400 : Int32) then (gI 2 4 M a0).bind fun v9 => (pI 2 4 M a0 (v9 + (1 : Int32))).bind fun M10 => some M10 else (pI 2 5 M a0 (2 : Int32)).bind fun M11 => some M11 else (pI 2 5 M a0 (1 : Int32)).bind fun M12 => some M12 else some M
set_option maxRecDepth 100000 in
set_option maxHeartbeats 4000000 in
theorem C_X2_take {n : Nat} {M : AM} {a0 : Nat} {a1 : Int32} {o : AM} (h : F_X2_take n M a0 a1 = some o) : Cn yX2_take cX2_take 2 none 1 [.ref a0, .int a1] M none o := by
  unfold F_X2_take at h
  refine Cn.of rfl (Nat.le_of_ble_eq_true rfl) ?_
  show G yX2_take cX2_take 2 none 1 0 [(0, .ref a0), (1, .int a1)] [] M none o
  refine G.aload_n dX2_take_0 rfl rfl ?_
  refine G.getI dX2_take_1 fkX2_25 fr2_5 h (fun v1 h => ?_)
  refine G.if_eq 8 dX2_take_4 (by decide) h (fun c2 h => ?_) (fun c2 h => ?_)
  · refine G.aload_n dX2_take_8 rfl rfl ?_
    refine G.getR dX2_take_9 fkX2_41 fr2_0 h (fun v3 h => ?_)
    refine G.aload_n dX2_take_12 rfl rfl ?_
    refine G.getI dX2_take_13 fkX2_22 fr2_4 h (fun v4 h => ?_)
    refine G.callVi (ci := 9) [.int v4] [] dX2_take_16 lkX2_51 okX9_kindAt rfl (fun v hv => C_X9_kindAt hv) (Nat.le_of_ble_eq_true rfl) rfl rfl (Nat.le_of_ble_eq_true rfl) h (fun v5 h => ?_)
    refine G.iload_n dX2_take_19 rfl rfl ?_
    refine G.icmp_eq 31 dX2_take_20 (by decide) h (fun c6 h => ?_) (fun c6 h => ?_)
    · refine G.aload_n dX2_take_31 rfl rfl ?_
      refine G.getI dX2_take_32 fkX2_22 fr2_4 h (fun v7 h => ?_)
      refine G.sipush (400 : Int32) dX2_take_35 ks_400 ?_
      refine G.icmp_lt 49 dX2_take_38 (by decide) h (fun c8 h => ?_) (fun c8 h => ?_)
      · refine G.aload_n dX2_take_49 rfl rfl ?_
        refine G.dup dX2_take_50 rfl ?_
        refine G.getI dX2_take_51 fkX2_22 fr2_4 h (fun v9 h => ?_)
        refine G.iconst (1 : Int32) dX2_take_54 ki_1 ?_
        refine G.iadd dX2_take_55 ?_
        refine G.putI dX2_take_56 fkX2_22 nf2_4 ft2_4 h (fun M10 h => ?_)
        exact G.vretW dX2_take_59 rfl h
      · refine G.aload_n dX2_take_41 rfl rfl ?_
        refine G.iconst (2 : Int32) dX2_take_42 ki_2 ?_
        refine G.putI dX2_take_43 fkX2_25 nf2_5 ft2_5 h (fun M11 h => ?_)
        refine G.goto 59 dX2_take_46 (by decide) ?_
        exact G.vretW dX2_take_59 rfl h
    · refine G.aload_n dX2_take_23 rfl rfl ?_
      refine G.iconst (1 : Int32) dX2_take_24 ki_1 ?_
      refine G.putI dX2_take_25 fkX2_25 nf2_5 ft2_5 h (fun M12 h => ?_)
      refine G.goto 59 dX2_take_28 (by decide) ?_
      exact G.vretW dX2_take_59 rfl h
  · exact G.vretW dX2_take_7 rfl h
-- OnlyUpward$Grammar.takeFurtherNames()V
set_option maxRecDepth 100000 in
set_option maxHeartbeats 4000000 in
def F_X2_takeFurtherNames (n : Nat) (M : AM) (a0 : Nat) : Option AM :=
  (iter (fun (s1 : Int32 × AM) => if (400 : Int32) ≤ s1.1 then some (.inr s1.2) else (gI 2 5 s1.2 a0).bind fun v3 => if v3 = 0 then (gR 2 0 s1.2 a0).bind fun v5 => (gI 2 4 s1.2 a0).bind fun v6 => (rcv 9 s1.2 v5 (F_X9_kindAt n s1.2 v5 v6)).bind fun v7 => if v7 = (23 : Int32) then (rcv 2 s1.2 a0 (F_X2_take n s1.2 a0 (23 : Int32))).bind fun M10 => (rcv 2 M10 a0 (F_X2_take n M10 a0 (20 : Int32))).bind fun M12 => some (.inl ((s1.1 + (1 : Int32)), M12)) else some (.inr s1.2) else some (.inr s1.2)) n ((0 : Int32), M)).bind fun (e1 : AM) => some e1
set_option maxRecDepth 100000 in
set_option maxHeartbeats 4000000 in
theorem C_X2_takeFurtherNames {n : Nat} {M : AM} {a0 : Nat} {o : AM} (h : F_X2_takeFurtherNames n M a0 = some o) : Cn yX2_takeFurtherNames cX2_takeFurtherNames 2 none 2 [.ref a0] M none o := by
  unfold F_X2_takeFurtherNames at h
  refine Cn.of rfl (Nat.le_of_ble_eq_true rfl) ?_
  show G yX2_takeFurtherNames cX2_takeFurtherNames 2 none 2 0 [(0, .ref a0)] [] M none o
  refine G.iconst (0 : Int32) dX2_takeFurtherNames_0 ki_0 ?_
  refine G.istore_n (lv' := [(1, .int (0 : Int32)), (0, .ref a0)]) dX2_takeFurtherNames_1 rfl (Nat.le_of_ble_eq_true rfl) rfl ?_
  refine G.sub (lv' := [(0, .ref a0), (1, .int (0 : Int32))]) [1, 0] rfl ?_
  refine loopE (fun (s1 : Int32 × AM) => G yX2_takeFurtherNames cX2_takeFurtherNames 2 none 2 2 [(0, .ref a0), (1, .int s1.1)] [] s1.2 none o) (fun (e1 : AM) => G yX2_takeFurtherNames cX2_takeFurtherNames 2 none 2 50 [] [] e1 none o) h ?_ ?_
  · intro e1 h
    show G yX2_takeFurtherNames cX2_takeFurtherNames 2 none 2 50 [] [] e1 none o
    exact G.vretW dX2_takeFurtherNames_50 rfl h
  · intro s1 x1 h K1
    show G yX2_takeFurtherNames cX2_takeFurtherNames 2 none 2 2 [(0, .ref a0), (1, .int s1.1)] [] s1.2 none o
    refine G.iload_n dX2_takeFurtherNames_2 rfl rfl ?_
    refine G.sipush (400 : Int32) dX2_takeFurtherNames_3 ks_400 ?_
    refine G.icmp_ge 50 dX2_takeFurtherNames_6 (by decide) h (fun c2 h => ?_) (fun c2 h => ?_)
    · refine G.sub (lv' := []) [] rfl ?_
      have h := leafR' h K1
      exact h
    · refine G.aload_n dX2_takeFurtherNames_9 rfl rfl ?_
      refine G.getI dX2_takeFurtherNames_10 fkX2_25 fr2_5 h (fun v3 h => ?_)
      refine G.if_ne 50 dX2_takeFurtherNames_13 (by decide) h (fun c4 h => ?_) (fun c4 h => ?_)
      · refine G.aload_n dX2_takeFurtherNames_16 rfl rfl ?_
        refine G.getR dX2_takeFurtherNames_17 fkX2_41 fr2_0 h (fun v5 h => ?_)
        refine G.aload_n dX2_takeFurtherNames_20 rfl rfl ?_
        refine G.getI dX2_takeFurtherNames_21 fkX2_22 fr2_4 h (fun v6 h => ?_)
        refine G.callVi (ci := 9) [.int v6] [] dX2_takeFurtherNames_24 lkX2_51 okX9_kindAt rfl (fun v hv => C_X9_kindAt hv) (Nat.le_of_ble_eq_true rfl) rfl rfl (Nat.le_of_ble_eq_true rfl) h (fun v7 h => ?_)
        refine G.bipush (23 : Int32) dX2_takeFurtherNames_27 kb_23 ?_
        refine G.icmp_ne 50 dX2_takeFurtherNames_29 (by decide) h (fun c8 h => ?_) (fun c8 h => ?_)
        · refine G.aload_n dX2_takeFurtherNames_32 rfl rfl ?_
          refine G.bipush (23 : Int32) dX2_takeFurtherNames_33 kb_23 ?_
          refine G.callVv (ci := 2) [.int (23 : Int32)] [] dX2_takeFurtherNames_35 lkX2_64 okX2_take rfl (fun v hv => C_X2_take hv) (Nat.le_of_ble_eq_true rfl) rfl rfl (Nat.le_of_ble_eq_true rfl) h (fun M10 h => ?_)
          refine G.aload_n dX2_takeFurtherNames_38 rfl rfl ?_
          refine G.bipush (20 : Int32) dX2_takeFurtherNames_39 kb_20 ?_
          refine G.callVv (ci := 2) [.int (20 : Int32)] [] dX2_takeFurtherNames_41 lkX2_64 okX2_take rfl (fun v hv => C_X2_take hv) (Nat.le_of_ble_eq_true rfl) rfl rfl (Nat.le_of_ble_eq_true rfl) h (fun M12 h => ?_)
          refine G.iinc s1.1 (w := (s1.1 + (1 : Int32))) (lv' := [(1, .int (s1.1 + (1 : Int32))), (0, .ref a0)]) dX2_takeFurtherNames_44 rfl rfl (Nat.le_of_ble_eq_true rfl) rfl ?_
          refine G.goto 2 dX2_takeFurtherNames_47 (by decide) ?_
          refine G.sub (lv' := [(0, .ref a0), (1, .int (s1.1 + (1 : Int32)))]) [1, 0] rfl ?_
          have h := leafL' h K1
          exact h
        · refine G.sub (lv' := []) [] rfl ?_
          have h := leafR' h K1
          exact h
      · refine G.sub (lv' := []) [] rfl ?_
        have h := leafR' h K1
        exact h
-- OnlyUpward$Laws.begin(Z)V
set_option maxRecDepth 100000 in
set_option maxHeartbeats 4000000 in
def F_X4_begin (n : Nat) (M : AM) (a0 : Nat) (a1 : Int32) : Option AM :=
  jn (fun (u1 : Int32) => (gR 4 4 M a0).bind fun v2 => (rdI M v2 u1).bind fun v3 => if (4 : Int32) ≤ v3 then some M else (gR 4 4 M a0).bind fun v5 => (rdI M v5 u1).bind fun v6 => (pI 4 8 M a0 ((u1 * (4 : Int32)) + v6)).bind fun M7 => (gR 4 4 M7 a0).bind fun v8 => (rdI M7 v8 u1).bind fun v9 => (wrI M7 v8 u1 (v9 + (1 : Int32))).bind fun M10 => (gR 4 2 M10 a0).bind fun v11 => (gI 4 8 M10 a0).bind fun v12 => (gI 4 7 M10 a0).bind fun v13 => (wrI M10 v11 v12 v13).bind fun M14 => (gR 4 3 M14 a0).bind fun v15 => (gI 4 8 M14 a0).bind fun v16 => (gI 4 7 M14 a0).bind fun v17 => (wrI M14 v15 v16 v17).bind fun M18 => some M18) fun j19 => if a1 = 0 then j19 (0 : Int32) else j19 (1 : Int32)
set_option maxRecDepth 100000 in
set_option maxHeartbeats 4000000 in
theorem C_X4_begin {n : Nat} {M : AM} {a0 : Nat} {a1 : Int32} {o : AM} (h : F_X4_begin n M a0 a1 = some o) : Cn yX4_begin cX4_begin 3 none 0 [.ref a0, .int a1] M none o := by
  unfold F_X4_begin at h
  refine Cn.of rfl (Nat.le_of_ble_eq_true rfl) ?_
  show G yX4_begin cX4_begin 3 none 0 0 [(0, .ref a0), (1, .int a1)] [] M none o
  refine G.iload_n dX4_begin_0 rfl rfl ?_
  refine jn_elim (fun j19 => ∀ (u1 : Int32), j19 u1 = some o → G yX4_begin cX4_begin 3 none 0 9 [(0, .ref a0)] [.int u1] M none o) h ?_ ?_
  · intro u1 h
    refine G.istore_n (lv' := [(2, .int u1), (0, .ref a0)]) dX4_begin_9 rfl (Nat.le_of_ble_eq_true rfl) rfl ?_
    refine G.aload_n dX4_begin_10 rfl rfl ?_
    refine G.getR dX4_begin_11 fkX4_24 fr4_4 h (fun v2 h => ?_)
    refine G.iload_n dX4_begin_14 rfl rfl ?_
    refine G.iald dX4_begin_15 h (fun v3 h => ?_)
    refine G.iconst (4 : Int32) dX4_begin_16 ki_4 ?_
    refine G.icmp_ge 70 dX4_begin_17 (by decide) h (fun c4 h => ?_) (fun c4 h => ?_)
    · exact G.vretW dX4_begin_70 rfl h
    · refine G.aload_n dX4_begin_20 rfl rfl ?_
      refine G.iload_n dX4_begin_21 rfl rfl ?_
      refine G.iconst (4 : Int32) dX4_begin_22 ki_4 ?_
      refine G.imul dX4_begin_23 ?_
      refine G.aload_n dX4_begin_24 rfl rfl ?_
      refine G.getR dX4_begin_25 fkX4_24 fr4_4 h (fun v5 h => ?_)
      refine G.iload_n dX4_begin_28 rfl rfl ?_
      refine G.iald dX4_begin_29 h (fun v6 h => ?_)
      refine G.iadd dX4_begin_30 ?_
      refine G.putI dX4_begin_31 fkX4_37 nf4_8 ft4_8 h (fun M7 h => ?_)
      refine G.aload_n dX4_begin_34 rfl rfl ?_
      refine G.getR dX4_begin_35 fkX4_24 fr4_4 h (fun v8 h => ?_)
      refine G.iload_n dX4_begin_38 rfl rfl ?_
      refine G.dup2 dX4_begin_39 rfl rfl ?_
      refine G.iald dX4_begin_40 h (fun v9 h => ?_)
      refine G.iconst (1 : Int32) dX4_begin_41 ki_1 ?_
      refine G.iadd dX4_begin_42 ?_
      refine G.iast dX4_begin_43 h (fun M10 h => ?_)
      refine G.aload_n dX4_begin_44 rfl rfl ?_
      refine G.getR dX4_begin_45 fkX4_18 fr4_2 h (fun v11 h => ?_)
      refine G.aload_n dX4_begin_48 rfl rfl ?_
      refine G.getI dX4_begin_49 fkX4_37 fr4_8 h (fun v12 h => ?_)
      refine G.aload_n dX4_begin_52 rfl rfl ?_
      refine G.getI dX4_begin_53 fkX4_33 fr4_7 h (fun v13 h => ?_)
      refine G.iast dX4_begin_56 h (fun M14 h => ?_)
      refine G.aload_n dX4_begin_57 rfl rfl ?_
      refine G.getR dX4_begin_58 fkX4_21 fr4_3 h (fun v15 h => ?_)
      refine G.aload_n dX4_begin_61 rfl rfl ?_
      refine G.getI dX4_begin_62 fkX4_37 fr4_8 h (fun v16 h => ?_)
      refine G.aload_n dX4_begin_65 rfl rfl ?_
      refine G.getI dX4_begin_66 fkX4_33 fr4_7 h (fun v17 h => ?_)
      refine G.iast dX4_begin_69 h (fun M18 h => ?_)
      exact G.vretW dX4_begin_70 rfl h
  · intro j19 Jj19 h
    refine G.if_eq 8 dX4_begin_1 (by decide) h (fun c20 h => ?_) (fun c20 h => ?_)
    · refine G.iconst (0 : Int32) dX4_begin_8 ki_0 ?_
      refine G.sub (lv' := [(0, .ref a0)]) [0] rfl ?_
      exact Jj19 _ h
    · refine G.iconst (1 : Int32) dX4_begin_4 ki_1 ?_
      refine G.goto 9 dX4_begin_5 (by decide) ?_
      refine G.sub (lv' := [(0, .ref a0)]) [0] rfl ?_
      exact Jj19 _ h
-- OnlyUpward$Grammar.isComparison(I)Z
set_option maxRecDepth 100000 in
set_option maxHeartbeats 4000000 in
def F_X2_isComparison (n : Nat) (M : AM) (a0 : Int32) : Option Int32 :=
  if a0 < (28 : Int32) then some (0 : Int32) else if (31 : Int32) < a0 then some (0 : Int32) else some (1 : Int32)
set_option maxRecDepth 100000 in
set_option maxHeartbeats 4000000 in
theorem C_X2_isComparison {n : Nat} {M : AM} {a0 : Int32} {o : Int32} (h : F_X2_isComparison n M a0 = some o) : Cn yX2_isComparison cX2_isComparison 1 (some .boolean) 0 [.int a0] M (some (.int o)) M := by
  unfold F_X2_isComparison at h
  refine Cn.of rfl (Nat.le_of_ble_eq_true rfl) ?_
  show G yX2_isComparison cX2_isComparison 1 (some .boolean) 0 0 [(0, .int a0)] [] M (some (.int o)) M
  refine G.iload_n dX2_isComparison_0 rfl rfl ?_
  refine G.bipush (28 : Int32) dX2_isComparison_1 kb_28 ?_
  refine G.icmp_lt 16 dX2_isComparison_3 (by decide) h (fun c1 h => ?_) (fun c1 h => ?_)
  · refine G.iconst (0 : Int32) dX2_isComparison_16 ki_0 ?_
    exact G.iret dX2_isComparison_17 rfl (by decide) h
  · refine G.iload_n dX2_isComparison_6 rfl rfl ?_
    refine G.bipush (31 : Int32) dX2_isComparison_7 kb_31 ?_
    refine G.icmp_gt 16 dX2_isComparison_9 (by decide) h (fun c2 h => ?_) (fun c2 h => ?_)
    · refine G.iconst (0 : Int32) dX2_isComparison_16 ki_0 ?_
      exact G.iret dX2_isComparison_17 rfl (by decide) h
    · refine G.iconst (1 : Int32) dX2_isComparison_12 ki_1 ?_
      refine G.goto 17 dX2_isComparison_13 (by decide) ?_
      exact G.iret dX2_isComparison_17 rfl (by decide) h
-- OnlyUpward$Grammar.tightness(I)I
set_option maxRecDepth 100000 in
set_option maxHeartbeats 4000000 in
def F_X2_tightness (n : Nat) (M : AM) (a0 : Int32) : Option Int32 :=
  jn ((F_X2_isComparison n M a0).bind fun v1 => if v1 = 0 then some (0 : Int32) else some (4 : Int32)) fun j3 => if a0 = (13 : Int32) then some (1 : Int32) else if a0 = (14 : Int32) then some (2 : Int32) else if a0 = (15 : Int32) then some (3 : Int32) else if a0 = (16 : Int32) then j3 else if a0 = (17 : Int32) then j3 else if a0 = (18 : Int32) then j3 else if a0 = (19 : Int32) then j3 else if a0 = (20 : Int32) then j3 else if a0 = (21 : Int32) then j3 else if a0 = (22 : Int32) then j3 else if a0 = (23 : Int32) then j3 else if a0 = (24 : Int32) then some (5 : Int32) else if a0 = (25 : Int32) then some (5 : Int32) else if a0 = (26 : Int32) then some (6 : Int32) else if a0 = (27 : Int32) then some (6 : Int32) else j3
set_option maxRecDepth 100000 in
set_option maxHeartbeats 4000000 in
theorem C_X2_tightness {n : Nat} {M : AM} {a0 : Int32} {o : Int32} (h : F_X2_tightness n M a0 = some o) : Cn yX2_tightness cX2_tightness 1 (some .int) 1 [.int a0] M (some (.int o)) M := by
  unfold F_X2_tightness at h
  refine Cn.of rfl (Nat.le_of_ble_eq_true rfl) ?_
  show G yX2_tightness cX2_tightness 1 (some .int) 1 0 [(0, .int a0)] [] M (some (.int o)) M
  refine G.iload_n dX2_tightness_0 rfl rfl ?_
  refine jn_elim (fun j3 => j3 = some o → G yX2_tightness cX2_tightness 1 (some .int) 1 87 [(0, .int a0)] [] M (some (.int o)) M) h ?_ ?_
  · intro h
    refine G.iload_n dX2_tightness_87 rfl rfl ?_
    refine G.callSi [.int a0] [] dX2_tightness_88 lkX2_120 okX2_isComparison (fun v hv => C_X2_isComparison hv) (Nat.le_of_ble_eq_true rfl) rfl rfl (Nat.le_of_ble_eq_true rfl) h (fun v1 h => ?_)
    refine G.if_eq 98 dX2_tightness_91 (by decide) h (fun c2 h => ?_) (fun c2 h => ?_)
    · refine G.iconst (0 : Int32) dX2_tightness_98 ki_0 ?_
      exact G.iret dX2_tightness_99 rfl (rfl) h
    · refine G.iconst (4 : Int32) dX2_tightness_94 ki_4 ?_
      refine G.goto 99 dX2_tightness_95 (by decide) ?_
      exact G.iret dX2_tightness_99 rfl (rfl) h
  · intro j3 Jj3 h
    refine G.sw h (fun c4 h => ?_) (fun c4 h => ?_)
    · refine G.tableIn 76 dX2_tightness_1 (by rw [c4]; decide) (by rw [c4]; decide) (by rw [c4]; rfl) (by decide) ?_
      refine G.iconst (1 : Int32) dX2_tightness_76 ki_1 ?_
      exact G.iret dX2_tightness_77 rfl (rfl) h
    · refine G.sw h (fun c5 h => ?_) (fun c5 h => ?_)
      · refine G.tableIn 78 dX2_tightness_1 (by rw [c5]; decide) (by rw [c5]; decide) (by rw [c5]; rfl) (by decide) ?_
        refine G.iconst (2 : Int32) dX2_tightness_78 ki_2 ?_
        exact G.iret dX2_tightness_79 rfl (rfl) h
      · refine G.sw h (fun c6 h => ?_) (fun c6 h => ?_)
        · refine G.tableIn 80 dX2_tightness_1 (by rw [c6]; decide) (by rw [c6]; decide) (by rw [c6]; rfl) (by decide) ?_
          refine G.iconst (3 : Int32) dX2_tightness_80 ki_3 ?_
          exact G.iret dX2_tightness_81 rfl (rfl) h
        · refine G.sw h (fun c7 h => ?_) (fun c7 h => ?_)
          · refine G.tableIn 87 dX2_tightness_1 (by rw [c7]; decide) (by rw [c7]; decide) (by rw [c7]; rfl) (by decide) ?_
            refine G.sub (lv' := [(0, .int a0)]) [0] rfl ?_
            exact Jj3  h
          · refine G.sw h (fun c8 h => ?_) (fun c8 h => ?_)
            · refine G.tableIn 87 dX2_tightness_1 (by rw [c8]; decide) (by rw [c8]; decide) (by rw [c8]; rfl) (by decide) ?_
              refine G.sub (lv' := [(0, .int a0)]) [0] rfl ?_
              exact Jj3  h
            · refine G.sw h (fun c9 h => ?_) (fun c9 h => ?_)
              · refine G.tableIn 87 dX2_tightness_1 (by rw [c9]; decide) (by rw [c9]; decide) (by rw [c9]; rfl) (by decide) ?_
                refine G.sub (lv' := [(0, .int a0)]) [0] rfl ?_
                exact Jj3  h
              · refine G.sw h (fun c10 h => ?_) (fun c10 h => ?_)
                · refine G.tableIn 87 dX2_tightness_1 (by rw [c10]; decide) (by rw [c10]; decide) (by rw [c10]; rfl) (by decide) ?_
                  refine G.sub (lv' := [(0, .int a0)]) [0] rfl ?_
                  exact Jj3  h
                · refine G.sw h (fun c11 h => ?_) (fun c11 h => ?_)
                  · refine G.tableIn 87 dX2_tightness_1 (by rw [c11]; decide) (by rw [c11]; decide) (by rw [c11]; rfl) (by decide) ?_
                    refine G.sub (lv' := [(0, .int a0)]) [0] rfl ?_
                    exact Jj3  h
                  · refine G.sw h (fun c12 h => ?_) (fun c12 h => ?_)
                    · refine G.tableIn 87 dX2_tightness_1 (by rw [c12]; decide) (by rw [c12]; decide) (by rw [c12]; rfl) (by decide) ?_
                      refine G.sub (lv' := [(0, .int a0)]) [0] rfl ?_
                      exact Jj3  h
                    · refine G.sw h (fun c13 h => ?_) (fun c13 h => ?_)
                      · refine G.tableIn 87 dX2_tightness_1 (by rw [c13]; decide) (by rw [c13]; decide) (by rw [c13]; rfl) (by decide) ?_
                        refine G.sub (lv' := [(0, .int a0)]) [0] rfl ?_
                        exact Jj3  h
                      · refine G.sw h (fun c14 h => ?_) (fun c14 h => ?_)
                        · refine G.tableIn 87 dX2_tightness_1 (by rw [c14]; decide) (by rw [c14]; decide) (by rw [c14]; rfl) (by decide) ?_
                          refine G.sub (lv' := [(0, .int a0)]) [0] rfl ?_
                          exact Jj3  h
                        · refine G.sw h (fun c15 h => ?_) (fun c15 h => ?_)
                          · refine G.tableIn 82 dX2_tightness_1 (by rw [c15]; decide) (by rw [c15]; decide) (by rw [c15]; rfl) (by decide) ?_
                            refine G.iconst (5 : Int32) dX2_tightness_82 ki_5 ?_
                            exact G.iret dX2_tightness_83 rfl (rfl) h
                          · refine G.sw h (fun c16 h => ?_) (fun c16 h => ?_)
                            · refine G.tableIn 82 dX2_tightness_1 (by rw [c16]; decide) (by rw [c16]; decide) (by rw [c16]; rfl) (by decide) ?_
                              refine G.iconst (5 : Int32) dX2_tightness_82 ki_5 ?_
                              exact G.iret dX2_tightness_83 rfl (rfl) h
                            · refine G.sw h (fun c17 h => ?_) (fun c17 h => ?_)
                              · refine G.tableIn 84 dX2_tightness_1 (by rw [c17]; decide) (by rw [c17]; decide) (by rw [c17]; rfl) (by decide) ?_
                                refine G.bipush (6 : Int32) dX2_tightness_84 kb_6 ?_
                                exact G.iret dX2_tightness_86 rfl (rfl) h
                              · refine G.sw h (fun c18 h => ?_) (fun c18 h => ?_)
                                · refine G.tableIn 84 dX2_tightness_1 (by rw [c18]; decide) (by rw [c18]; decide) (by rw [c18]; rfl) (by decide) ?_
                                  refine G.bipush (6 : Int32) dX2_tightness_84 kb_6 ?_
                                  exact G.iret dX2_tightness_86 rfl (rfl) h
                                · refine G.tableOut 87 dX2_tightness_1 (sw_out (lo := 13) (hi := 27) (fun z19 g1 g2 ge => ?_)) (by decide) ?_
                                  · have hz : z19 = 13 ∨ z19 = 14 ∨ z19 = 15 ∨ z19 = 16 ∨ z19 = 17 ∨ z19 = 18 ∨ z19 = 19 ∨ z19 = 20 ∨ z19 = 21 ∨ z19 = 22 ∨ z19 = 23 ∨ z19 = 24 ∨ z19 = 25 ∨ z19 = 26 ∨ z19 = 27 := by omega
                                    rcases hz with rfl | rfl | rfl | rfl | rfl | rfl | rfl | rfl | rfl | rfl | rfl | rfl | rfl | rfl | rfl
                                    · exact c4 ge
                                    · exact c5 ge
                                    · exact c6 ge
                                    · exact c7 ge
                                    · exact c8 ge
                                    · exact c9 ge
                                    · exact c10 ge
                                    · exact c11 ge
                                    · exact c12 ge
                                    · exact c13 ge
                                    · exact c14 ge
                                    · exact c15 ge
                                    · exact c16 ge
                                    · exact c17 ge
                                    · exact c18 ge
                                  · refine G.sub (lv' := [(0, .int a0)]) [0] rfl ?_
                                    exact Jj3  h
-- OnlyUpward$Laws.put(II)V
set_option maxRecDepth 100000 in
set_option maxHeartbeats 4000000 in
def F_X4_put (n : Nat) (M : AM) (a0 : Nat) (a1 : Int32) (a2 : Int32) : Option AM :=
  (gI 4 7 M a0).bind fun v1 => (gR 4 0 M a0).bind fun v2 => (aln M v2).bind fun v3 => if v3 ≤ v1 then some M else (gR 4 0 M a0).bind fun v5 => (gI 4 7 M a0).bind fun v6 => (wrI M v5 v6 a1).bind fun M7 => (gR 4 1 M7 a0).bind fun v8 => (gI 4 7 M7 a0).bind fun v9 => (wrI M7 v8 v9 a2).bind fun M10 => (gI 4 7 M10 a0).bind fun v11 => (pI 4 7 M10 a0 (v11 + (1 : Int32))).bind fun M12 => some M12
set_option maxRecDepth 100000 in
set_option maxHeartbeats 4000000 in
theorem C_X4_put {n : Nat} {M : AM} {a0 : Nat} {a1 : Int32} {a2 : Int32} {o : AM} (h : F_X4_put n M a0 a1 a2 = some o) : Cn yX4_put cX4_put 3 none 0 [.ref a0, .int a1, .int a2] M none o := by
  unfold F_X4_put at h
  refine Cn.of rfl (Nat.le_of_ble_eq_true rfl) ?_
  show G yX4_put cX4_put 3 none 0 0 [(0, .ref a0), (1, .int a1), (2, .int a2)] [] M none o
  refine G.aload_n dX4_put_0 rfl rfl ?_
  refine G.getI dX4_put_1 fkX4_33 fr4_7 h (fun v1 h => ?_)
  refine G.aload_n dX4_put_4 rfl rfl ?_
  refine G.getR dX4_put_5 fkX4_9 fr4_0 h (fun v2 h => ?_)
  refine G.alen dX4_put_8 h (fun v3 h => ?_)
  refine G.icmp_ge 42 dX4_put_9 (by decide) h (fun c4 h => ?_) (fun c4 h => ?_)
  · exact G.vretW dX4_put_42 rfl h
  · refine G.aload_n dX4_put_12 rfl rfl ?_
    refine G.getR dX4_put_13 fkX4_9 fr4_0 h (fun v5 h => ?_)
    refine G.aload_n dX4_put_16 rfl rfl ?_
    refine G.getI dX4_put_17 fkX4_33 fr4_7 h (fun v6 h => ?_)
    refine G.iload_n dX4_put_20 rfl rfl ?_
    refine G.iast dX4_put_21 h (fun M7 h => ?_)
    refine G.aload_n dX4_put_22 rfl rfl ?_
    refine G.getR dX4_put_23 fkX4_15 fr4_1 h (fun v8 h => ?_)
    refine G.aload_n dX4_put_26 rfl rfl ?_
    refine G.getI dX4_put_27 fkX4_33 fr4_7 h (fun v9 h => ?_)
    refine G.iload_n dX4_put_30 rfl rfl ?_
    refine G.iast dX4_put_31 h (fun M10 h => ?_)
    refine G.aload_n dX4_put_32 rfl rfl ?_
    refine G.dup dX4_put_33 rfl ?_
    refine G.getI dX4_put_34 fkX4_33 fr4_7 h (fun v11 h => ?_)
    refine G.iconst (1 : Int32) dX4_put_37 ki_1 ?_
    refine G.iadd dX4_put_38 ?_
    refine G.putI dX4_put_39 fkX4_33 nf4_7 ft4_7 h (fun M12 h => ?_)
    exact G.vretW dX4_put_42 rfl h
-- OnlyUpward$Grammar.release(ILOnlyUpward$Laws;)V
set_option maxRecDepth 100000 in
set_option maxHeartbeats 4000000 in
def F_X2_release (n : Nat) (M : AM) (a0 : Nat) (a1 : Int32) (a2 : Nat) : Option AM :=
  (iter (fun (s1 : AM) => (gI 2 3 s1 a0).bind fun v2 => if v2 ≤ 0 then some (.inr s1) else (gR 2 2 s1 a0).bind fun v4 => (gI 2 3 s1 a0).bind fun v5 => (rdI s1 v4 (v5 - (1 : Int32))).bind fun v6 => (F_X2_tightness n s1 v6).bind fun v7 => if v7 < a1 then some (.inr s1) else (gI 2 3 s1 a0).bind fun v9 => (pI 2 3 s1 a0 (v9 - (1 : Int32))).bind fun M10 => (gR 2 2 M10 a0).bind fun v11 => (gI 2 3 M10 a0).bind fun v12 => (rdI M10 v11 v12).bind fun v13 => (rcv 4 M10 a2 (F_X4_put n M10 a2 v13 (0 : Int32))).bind fun M15 => some (.inl M15)) n M).bind fun (e1 : AM) => some e1
set_option maxRecDepth 100000 in
set_option maxHeartbeats 4000000 in
theorem C_X2_release {n : Nat} {M : AM} {a0 : Nat} {a1 : Int32} {a2 : Nat} {o : AM} (h : F_X2_release n M a0 a1 a2 = some o) : Cn yX2_release cX2_release 3 none 2 [.ref a0, .int a1, .ref a2] M none o := by
  unfold F_X2_release at h
  refine Cn.of rfl (Nat.le_of_ble_eq_true rfl) ?_
  show G yX2_release cX2_release 3 none 2 0 [(0, .ref a0), (1, .int a1), (2, .ref a2)] [] M none o
  refine G.sub (lv' := [(0, .ref a0), (1, .int a1), (2, .ref a2)]) [0, 1, 2] rfl ?_
  refine loopE (fun (s1 : AM) => G yX2_release cX2_release 3 none 2 0 [(0, .ref a0), (1, .int a1), (2, .ref a2)] [] s1 none o) (fun (e1 : AM) => G yX2_release cX2_release 3 none 2 52 [] [] e1 none o) h ?_ ?_
  · intro e1 h
    show G yX2_release cX2_release 3 none 2 52 [] [] e1 none o
    exact G.vretW dX2_release_52 rfl h
  · intro s1 x1 h K1
    show G yX2_release cX2_release 3 none 2 0 [(0, .ref a0), (1, .int a1), (2, .ref a2)] [] s1 none o
    refine G.aload_n dX2_release_0 rfl rfl ?_
    refine G.getI dX2_release_1 fkX2_18 fr2_3 h (fun v2 h => ?_)
    refine G.if_le 52 dX2_release_4 (by decide) h (fun c3 h => ?_) (fun c3 h => ?_)
    · refine G.sub (lv' := []) [] rfl ?_
      have h := leafR' h K1
      exact h
    · refine G.aload_n dX2_release_7 rfl rfl ?_
      refine G.getR dX2_release_8 fkX2_15 fr2_2 h (fun v4 h => ?_)
      refine G.aload_n dX2_release_11 rfl rfl ?_
      refine G.getI dX2_release_12 fkX2_18 fr2_3 h (fun v5 h => ?_)
      refine G.iconst (1 : Int32) dX2_release_15 ki_1 ?_
      refine G.isub dX2_release_16 ?_
      refine G.iald dX2_release_17 h (fun v6 h => ?_)
      refine G.callSi [.int v6] [] dX2_release_18 lkX2_123 okX2_tightness (fun v hv => C_X2_tightness hv) (Nat.le_of_ble_eq_true rfl) rfl rfl (Nat.le_of_ble_eq_true rfl) h (fun v7 h => ?_)
      refine G.iload_n dX2_release_21 rfl rfl ?_
      refine G.icmp_lt 52 dX2_release_22 (by decide) h (fun c8 h => ?_) (fun c8 h => ?_)
      · refine G.sub (lv' := []) [] rfl ?_
        have h := leafR' h K1
        exact h
      · refine G.aload_n dX2_release_25 rfl rfl ?_
        refine G.dup dX2_release_26 rfl ?_
        refine G.getI dX2_release_27 fkX2_18 fr2_3 h (fun v9 h => ?_)
        refine G.iconst (1 : Int32) dX2_release_30 ki_1 ?_
        refine G.isub dX2_release_31 ?_
        refine G.putI dX2_release_32 fkX2_18 nf2_3 ft2_3 h (fun M10 h => ?_)
        refine G.aload_n dX2_release_35 rfl rfl ?_
        refine G.aload_n dX2_release_36 rfl rfl ?_
        refine G.getR dX2_release_37 fkX2_15 fr2_2 h (fun v11 h => ?_)
        refine G.aload_n dX2_release_40 rfl rfl ?_
        refine G.getI dX2_release_41 fkX2_18 fr2_3 h (fun v12 h => ?_)
        refine G.iald dX2_release_44 h (fun v13 h => ?_)
        refine G.iconst (0 : Int32) dX2_release_45 ki_0 ?_
        refine G.callVv (ci := 4) [.int v13, .int (0 : Int32)] [] dX2_release_46 lkX2_106 okX4_put rfl (fun v hv => C_X4_put hv) (Nat.le_of_ble_eq_true rfl) rfl rfl (Nat.le_of_ble_eq_true rfl) h (fun M15 h => ?_)
        refine G.goto 0 dX2_release_49 (by decide) ?_
        refine G.sub (lv' := [(0, .ref a0), (1, .int a1), (2, .ref a2)]) [0, 1, 2] rfl ?_
        have h := leafL' h K1
        exact h
-- OnlyUpward$Grammar.isReckoning(I)Z
set_option maxRecDepth 100000 in
set_option maxHeartbeats 4000000 in
def F_X2_isReckoning (n : Nat) (M : AM) (a0 : Int32) : Option Int32 :=
  if a0 < (24 : Int32) then some (0 : Int32) else if (27 : Int32) < a0 then some (0 : Int32) else some (1 : Int32)
set_option maxRecDepth 100000 in
set_option maxHeartbeats 4000000 in
theorem C_X2_isReckoning {n : Nat} {M : AM} {a0 : Int32} {o : Int32} (h : F_X2_isReckoning n M a0 = some o) : Cn yX2_isReckoning cX2_isReckoning 1 (some .boolean) 0 [.int a0] M (some (.int o)) M := by
  unfold F_X2_isReckoning at h
  refine Cn.of rfl (Nat.le_of_ble_eq_true rfl) ?_
  show G yX2_isReckoning cX2_isReckoning 1 (some .boolean) 0 0 [(0, .int a0)] [] M (some (.int o)) M
  refine G.iload_n dX2_isReckoning_0 rfl rfl ?_
  refine G.bipush (24 : Int32) dX2_isReckoning_1 kb_24 ?_
  refine G.icmp_lt 16 dX2_isReckoning_3 (by decide) h (fun c1 h => ?_) (fun c1 h => ?_)
  · refine G.iconst (0 : Int32) dX2_isReckoning_16 ki_0 ?_
    exact G.iret dX2_isReckoning_17 rfl (by decide) h
  · refine G.iload_n dX2_isReckoning_6 rfl rfl ?_
    refine G.bipush (27 : Int32) dX2_isReckoning_7 kb_27 ?_
    refine G.icmp_gt 16 dX2_isReckoning_9 (by decide) h (fun c2 h => ?_) (fun c2 h => ?_)
    · refine G.iconst (0 : Int32) dX2_isReckoning_16 ki_0 ?_
      exact G.iret dX2_isReckoning_17 rfl (by decide) h
    · refine G.iconst (1 : Int32) dX2_isReckoning_12 ki_1 ?_
      refine G.goto 17 dX2_isReckoning_13 (by decide) ?_
      exact G.iret dX2_isReckoning_17 rfl (by decide) h
-- OnlyUpward$Grammar.push(I)V
set_option maxRecDepth 100000 in
set_option maxHeartbeats 4000000 in
def F_X2_push (n : Nat) (M : AM) (a0 : Nat) (a1 : Int32) : Option AM :=
  (gI 2 3 M a0).bind fun v1 => (gR 2 2 M a0).bind fun v2 => (aln M v2).bind fun v3 => if v3 ≤ v1 then some M else (gR 2 2 M a0).bind fun v5 => (gI 2 3 M a0).bind fun v6 => (wrI M v5 v6 a1).bind fun M7 => (gI 2 3 M7 a0).bind fun v8 => (pI 2 3 M7 a0 (v8 + (1 : Int32))).bind fun M9 => some M9
set_option maxRecDepth 100000 in
set_option maxHeartbeats 4000000 in
theorem C_X2_push {n : Nat} {M : AM} {a0 : Nat} {a1 : Int32} {o : AM} (h : F_X2_push n M a0 a1 = some o) : Cn yX2_push cX2_push 2 none 0 [.ref a0, .int a1] M none o := by
  unfold F_X2_push at h
  refine Cn.of rfl (Nat.le_of_ble_eq_true rfl) ?_
  show G yX2_push cX2_push 2 none 0 0 [(0, .ref a0), (1, .int a1)] [] M none o
  refine G.aload_n dX2_push_0 rfl rfl ?_
  refine G.getI dX2_push_1 fkX2_18 fr2_3 h (fun v1 h => ?_)
  refine G.aload_n dX2_push_4 rfl rfl ?_
  refine G.getR dX2_push_5 fkX2_15 fr2_2 h (fun v2 h => ?_)
  refine G.alen dX2_push_8 h (fun v3 h => ?_)
  refine G.icmp_ge 32 dX2_push_9 (by decide) h (fun c4 h => ?_) (fun c4 h => ?_)
  · exact G.vretW dX2_push_32 rfl h
  · refine G.aload_n dX2_push_12 rfl rfl ?_
    refine G.getR dX2_push_13 fkX2_15 fr2_2 h (fun v5 h => ?_)
    refine G.aload_n dX2_push_16 rfl rfl ?_
    refine G.getI dX2_push_17 fkX2_18 fr2_3 h (fun v6 h => ?_)
    refine G.iload_n dX2_push_20 rfl rfl ?_
    refine G.iast dX2_push_21 h (fun M7 h => ?_)
    refine G.aload_n dX2_push_22 rfl rfl ?_
    refine G.dup dX2_push_23 rfl ?_
    refine G.getI dX2_push_24 fkX2_18 fr2_3 h (fun v8 h => ?_)
    refine G.iconst (1 : Int32) dX2_push_27 ki_1 ?_
    refine G.iadd dX2_push_28 ?_
    refine G.putI dX2_push_29 fkX2_18 nf2_3 ft2_3 h (fun M9 h => ?_)
    exact G.vretW dX2_push_32 rfl h
-- OnlyUpward$Grammar.takeBehindOperand(ILOnlyUpward$Laws;)V
set_option maxRecDepth 100000 in
set_option maxHeartbeats 4000000 in
def F_X2_takeBehindOperand (n : Nat) (M : AM) (a0 : Nat) (a1 : Int32) (a2 : Nat) : Option AM :=
  jn (fun (M1 : AM) => (rcv 2 M1 a0 (F_X2_take n M1 a0 a1)).bind fun M3 => some M3) fun j4 => jn ((F_X2_isReckoning n M a1).bind fun v5 => jn ((F_X2_tightness n M a1).bind fun v6 => (rcv 2 M a0 (F_X2_release n M a0 v6 a2)).bind fun M8 => (rcv 2 M8 a0 (F_X2_push n M8 a0 a1)).bind fun M10 => (pZ 2 7 M10 a0 (0 : Int32)).bind fun M11 => (gI 2 9 M11 a0).bind fun v12 => jn (fun (u13 : Int32) => (pZ 2 9 M11 a0 u13).bind fun M14 => j4 M14) fun j15 => jn (j15 (1 : Int32)) fun j16 => if v12 = 0 then (F_X2_isComparison n M11 a1).bind fun v18 => if v18 = 0 then j15 (0 : Int32) else j16 else j16) fun j20 => if v5 = 0 then (F_X2_isComparison n M a1).bind fun v22 => jn (jn ((pI 2 5 M a0 (1 : Int32)).bind fun M23 => j4 M23) fun j24 => jn ((gI 2 6 M a0).bind fun v25 => if v25 = 0 then (gI 2 9 M a0).bind fun v27 => if v27 = 0 then j24 else (F_X2_tightness n M a1).bind fun v29 => (rcv 2 M a0 (F_X2_release n M a0 v29 a2)).bind fun M31 => (rcv 2 M31 a0 (F_X2_push n M31 a0 a1)).bind fun M33 => (pZ 2 7 M33 a0 (0 : Int32)).bind fun M34 => (pZ 2 8 M34 a0 (0 : Int32)).bind fun M35 => (pZ 2 9 M35 a0 (0 : Int32)).bind fun M36 => j4 M36 else j24) fun j37 => if a1 = (14 : Int32) then j37 else if a1 = (13 : Int32) then j37 else j24) fun j40 => if v22 = 0 then j40 else (gI 2 6 M a0).bind fun v42 => if v42 = 0 then (gI 2 9 M a0).bind fun v44 => if v44 = 0 then j20 else j40 else j40 else j20) fun j46 => if a1 = (33 : Int32) then (gI 2 6 M a0).bind fun v48 => if v48 ≤ 0 then j46 else (rcv 2 M a0 (F_X2_release n M a0 (1 : Int32) a2)).bind fun M51 => (gI 2 3 M51 a0).bind fun v52 => (pI 2 3 M51 a0 (mxI (0 : Int32) (v52 - (1 : Int32)))).bind fun M53 => (gI 2 6 M53 a0).bind fun v54 => (pI 2 6 M53 a0 (v54 - (1 : Int32))).bind fun M55 => j4 M55 else j46
set_option maxRecDepth 100000 in
set_option maxHeartbeats 4000000 in
theorem C_X2_takeBehindOperand {n : Nat} {M : AM} {a0 : Nat} {a1 : Int32} {a2 : Nat} {o : AM} (h : F_X2_takeBehindOperand n M a0 a1 a2 = some o) : Cn yX2_takeBehindOperand cX2_takeBehindOperand 3 none 3 [.ref a0, .int a1, .ref a2] M none o := by
  unfold F_X2_takeBehindOperand at h
  refine Cn.of rfl (Nat.le_of_ble_eq_true rfl) ?_
  show G yX2_takeBehindOperand cX2_takeBehindOperand 3 none 3 0 [(0, .ref a0), (1, .int a1), (2, .ref a2)] [] M none o
  refine G.iload_n dX2_takeBehindOperand_0 rfl rfl ?_
  refine G.bipush (33 : Int32) dX2_takeBehindOperand_1 kb_33 ?_
  refine jn_elim (fun j4 => ∀ (M1 : AM), j4 M1 = some o → G yX2_takeBehindOperand cX2_takeBehindOperand 3 none 3 182 [(0, .ref a0), (1, .int a1)] [] M1 none o) h ?_ ?_
  · intro M1 h
    refine G.aload_n dX2_takeBehindOperand_182 rfl rfl ?_
    refine G.iload_n dX2_takeBehindOperand_183 rfl rfl ?_
    refine G.callVv (ci := 2) [.int a1] [] dX2_takeBehindOperand_184 lkX2_64 okX2_take rfl (fun v hv => C_X2_take hv) (Nat.le_of_ble_eq_true rfl) rfl rfl (Nat.le_of_ble_eq_true rfl) h (fun M3 h => ?_)
    exact G.vretW dX2_takeBehindOperand_187 rfl h
  · intro j4 Jj4 h
    refine jn_elim (fun j46 => j46 = some o → G yX2_takeBehindOperand cX2_takeBehindOperand 3 none 3 46 [(0, .ref a0), (1, .int a1), (2, .ref a2)] [] M none o) h ?_ ?_
    · intro h
      refine G.iload_n dX2_takeBehindOperand_46 rfl rfl ?_
      refine G.callSi [.int a1] [] dX2_takeBehindOperand_47 lkX2_116 okX2_isReckoning (fun v hv => C_X2_isReckoning hv) (Nat.le_of_ble_eq_true rfl) rfl rfl (Nat.le_of_ble_eq_true rfl) h (fun v5 h => ?_)
      refine jn_elim (fun j20 => j20 = some o → G yX2_takeBehindOperand cX2_takeBehindOperand 3 none 3 74 [(0, .ref a0), (1, .int a1), (2, .ref a2)] [] M none o) h ?_ ?_
      · intro h
        refine G.aload_n dX2_takeBehindOperand_74 rfl rfl ?_
        refine G.iload_n dX2_takeBehindOperand_75 rfl rfl ?_
        refine G.callSi [.int a1] [.ref a0] dX2_takeBehindOperand_76 lkX2_123 okX2_tightness (fun v hv => C_X2_tightness hv) (Nat.le_of_ble_eq_true rfl) rfl rfl (Nat.le_of_ble_eq_true rfl) h (fun v6 h => ?_)
        refine G.aload_n dX2_takeBehindOperand_79 rfl rfl ?_
        refine G.callVv (ci := 2) [.int v6, .ref a2] [] dX2_takeBehindOperand_80 lkX2_96 okX2_release rfl (fun v hv => C_X2_release hv) (Nat.le_of_ble_eq_true rfl) rfl rfl (Nat.le_of_ble_eq_true rfl) h (fun M8 h => ?_)
        refine G.aload_n dX2_takeBehindOperand_83 rfl rfl ?_
        refine G.iload_n dX2_takeBehindOperand_84 rfl rfl ?_
        refine G.callVv (ci := 2) [.int a1] [] dX2_takeBehindOperand_85 lkX2_99 okX2_push rfl (fun v hv => C_X2_push hv) (Nat.le_of_ble_eq_true rfl) rfl rfl (Nat.le_of_ble_eq_true rfl) h (fun M10 h => ?_)
        refine G.aload_n dX2_takeBehindOperand_88 rfl rfl ?_
        refine G.iconst (0 : Int32) dX2_takeBehindOperand_89 ki_0 ?_
        refine G.putZ dX2_takeBehindOperand_90 fkX2_31 nf2_7 ft2_7 h (fun M11 h => ?_)
        refine G.aload_n dX2_takeBehindOperand_93 rfl rfl ?_
        refine G.aload_n dX2_takeBehindOperand_94 rfl rfl ?_
        refine G.getI dX2_takeBehindOperand_95 fkX2_38 fr2_9 h (fun v12 h => ?_)
        refine jn_elim (fun j15 => ∀ (u13 : Int32), j15 u13 = some o → G yX2_takeBehindOperand cX2_takeBehindOperand 3 none 3 113 [(0, .ref a0), (1, .int a1)] [.int u13, .ref a0] M11 none o) h ?_ ?_
        · intro u13 h
          refine G.putZ dX2_takeBehindOperand_113 fkX2_38 nf2_9 ft2_9 h (fun M14 h => ?_)
          refine G.goto 182 dX2_takeBehindOperand_116 (by decide) ?_
          refine G.sub (lv' := [(0, .ref a0), (1, .int a1)]) [0, 1] rfl ?_
          exact Jj4 _ h
        · intro j15 Jj15 h
          refine jn_elim (fun j16 => j16 = some o → G yX2_takeBehindOperand cX2_takeBehindOperand 3 none 3 108 [(0, .ref a0), (1, .int a1)] [.ref a0] M11 none o) h ?_ ?_
          · intro h
            refine G.iconst (1 : Int32) dX2_takeBehindOperand_108 ki_1 ?_
            refine G.goto 113 dX2_takeBehindOperand_109 (by decide) ?_
            refine G.sub (lv' := [(0, .ref a0), (1, .int a1)]) [0, 1] rfl ?_
            exact Jj15 _ h
          · intro j16 Jj16 h
            refine G.if_ne 108 dX2_takeBehindOperand_98 (by decide) h (fun c17 h => ?_) (fun c17 h => ?_)
            · refine G.iload_n dX2_takeBehindOperand_101 rfl rfl ?_
              refine G.callSi [.int a1] [.ref a0] dX2_takeBehindOperand_102 lkX2_120 okX2_isComparison (fun v hv => C_X2_isComparison hv) (Nat.le_of_ble_eq_true rfl) rfl rfl (Nat.le_of_ble_eq_true rfl) h (fun v18 h => ?_)
              refine G.if_eq 112 dX2_takeBehindOperand_105 (by decide) h (fun c19 h => ?_) (fun c19 h => ?_)
              · refine G.iconst (0 : Int32) dX2_takeBehindOperand_112 ki_0 ?_
                refine G.sub (lv' := [(0, .ref a0), (1, .int a1)]) [0, 1] rfl ?_
                exact Jj15 _ h
              · refine G.sub (lv' := [(0, .ref a0), (1, .int a1)]) [0, 1] rfl ?_
                exact Jj16  h
            · refine G.sub (lv' := [(0, .ref a0), (1, .int a1)]) [0, 1] rfl ?_
              exact Jj16  h
      · intro j20 Jj20 h
        refine G.if_ne 74 dX2_takeBehindOperand_50 (by decide) h (fun c21 h => ?_) (fun c21 h => ?_)
        · refine G.iload_n dX2_takeBehindOperand_53 rfl rfl ?_
          refine G.callSi [.int a1] [] dX2_takeBehindOperand_54 lkX2_120 okX2_isComparison (fun v hv => C_X2_isComparison hv) (Nat.le_of_ble_eq_true rfl) rfl rfl (Nat.le_of_ble_eq_true rfl) h (fun v22 h => ?_)
          refine jn_elim (fun j40 => j40 = some o → G yX2_takeBehindOperand cX2_takeBehindOperand 3 none 3 119 [(0, .ref a0), (1, .int a1), (2, .ref a2)] [] M none o) h ?_ ?_
          · intro h
            refine G.iload_n dX2_takeBehindOperand_119 rfl rfl ?_
            refine G.bipush (14 : Int32) dX2_takeBehindOperand_120 kb_14 ?_
            refine jn_elim (fun j24 => j24 = some o → G yX2_takeBehindOperand cX2_takeBehindOperand 3 none 3 177 [(0, .ref a0), (1, .int a1)] [] M none o) h ?_ ?_
            · intro h
              refine G.aload_n dX2_takeBehindOperand_177 rfl rfl ?_
              refine G.iconst (1 : Int32) dX2_takeBehindOperand_178 ki_1 ?_
              refine G.putI dX2_takeBehindOperand_179 fkX2_25 nf2_5 ft2_5 h (fun M23 h => ?_)
              refine G.sub (lv' := [(0, .ref a0), (1, .int a1)]) [0, 1] rfl ?_
              exact Jj4 _ h
            · intro j24 Jj24 h
              refine jn_elim (fun j37 => j37 = some o → G yX2_takeBehindOperand cX2_takeBehindOperand 3 none 3 131 [(0, .ref a0), (1, .int a1), (2, .ref a2)] [] M none o) h ?_ ?_
              · intro h
                refine G.aload_n dX2_takeBehindOperand_131 rfl rfl ?_
                refine G.getI dX2_takeBehindOperand_132 fkX2_28 fr2_6 h (fun v25 h => ?_)
                refine G.if_ne 177 dX2_takeBehindOperand_135 (by decide) h (fun c26 h => ?_) (fun c26 h => ?_)
                · refine G.aload_n dX2_takeBehindOperand_138 rfl rfl ?_
                  refine G.getI dX2_takeBehindOperand_139 fkX2_38 fr2_9 h (fun v27 h => ?_)
                  refine G.if_eq 177 dX2_takeBehindOperand_142 (by decide) h (fun c28 h => ?_) (fun c28 h => ?_)
                  · refine G.sub (lv' := [(0, .ref a0), (1, .int a1)]) [0, 1] rfl ?_
                    exact Jj24  h
                  · refine G.aload_n dX2_takeBehindOperand_145 rfl rfl ?_
                    refine G.iload_n dX2_takeBehindOperand_146 rfl rfl ?_
                    refine G.callSi [.int a1] [.ref a0] dX2_takeBehindOperand_147 lkX2_123 okX2_tightness (fun v hv => C_X2_tightness hv) (Nat.le_of_ble_eq_true rfl) rfl rfl (Nat.le_of_ble_eq_true rfl) h (fun v29 h => ?_)
                    refine G.aload_n dX2_takeBehindOperand_150 rfl rfl ?_
                    refine G.callVv (ci := 2) [.int v29, .ref a2] [] dX2_takeBehindOperand_151 lkX2_96 okX2_release rfl (fun v hv => C_X2_release hv) (Nat.le_of_ble_eq_true rfl) rfl rfl (Nat.le_of_ble_eq_true rfl) h (fun M31 h => ?_)
                    refine G.aload_n dX2_takeBehindOperand_154 rfl rfl ?_
                    refine G.iload_n dX2_takeBehindOperand_155 rfl rfl ?_
                    refine G.callVv (ci := 2) [.int a1] [] dX2_takeBehindOperand_156 lkX2_99 okX2_push rfl (fun v hv => C_X2_push hv) (Nat.le_of_ble_eq_true rfl) rfl rfl (Nat.le_of_ble_eq_true rfl) h (fun M33 h => ?_)
                    refine G.aload_n dX2_takeBehindOperand_159 rfl rfl ?_
                    refine G.iconst (0 : Int32) dX2_takeBehindOperand_160 ki_0 ?_
                    refine G.putZ dX2_takeBehindOperand_161 fkX2_31 nf2_7 ft2_7 h (fun M34 h => ?_)
                    refine G.aload_n dX2_takeBehindOperand_164 rfl rfl ?_
                    refine G.iconst (0 : Int32) dX2_takeBehindOperand_165 ki_0 ?_
                    refine G.putZ dX2_takeBehindOperand_166 fkX2_35 nf2_8 ft2_8 h (fun M35 h => ?_)
                    refine G.aload_n dX2_takeBehindOperand_169 rfl rfl ?_
                    refine G.iconst (0 : Int32) dX2_takeBehindOperand_170 ki_0 ?_
                    refine G.putZ dX2_takeBehindOperand_171 fkX2_38 nf2_9 ft2_9 h (fun M36 h => ?_)
                    refine G.goto 182 dX2_takeBehindOperand_174 (by decide) ?_
                    refine G.sub (lv' := [(0, .ref a0), (1, .int a1)]) [0, 1] rfl ?_
                    exact Jj4 _ h
                · refine G.sub (lv' := [(0, .ref a0), (1, .int a1)]) [0, 1] rfl ?_
                  exact Jj24  h
              · intro j37 Jj37 h
                refine G.icmp_eq 131 dX2_takeBehindOperand_122 (by decide) h (fun c38 h => ?_) (fun c38 h => ?_)
                · refine G.sub (lv' := [(0, .ref a0), (1, .int a1), (2, .ref a2)]) [0, 1, 2] rfl ?_
                  exact Jj37  h
                · refine G.iload_n dX2_takeBehindOperand_125 rfl rfl ?_
                  refine G.bipush (13 : Int32) dX2_takeBehindOperand_126 kb_13 ?_
                  refine G.icmp_ne 177 dX2_takeBehindOperand_128 (by decide) h (fun c39 h => ?_) (fun c39 h => ?_)
                  · refine G.sub (lv' := [(0, .ref a0), (1, .int a1), (2, .ref a2)]) [0, 1, 2] rfl ?_
                    exact Jj37  h
                  · refine G.sub (lv' := [(0, .ref a0), (1, .int a1)]) [0, 1] rfl ?_
                    exact Jj24  h
          · intro j40 Jj40 h
            refine G.if_eq 119 dX2_takeBehindOperand_57 (by decide) h (fun c41 h => ?_) (fun c41 h => ?_)
            · refine G.sub (lv' := [(0, .ref a0), (1, .int a1), (2, .ref a2)]) [0, 1, 2] rfl ?_
              exact Jj40  h
            · refine G.aload_n dX2_takeBehindOperand_60 rfl rfl ?_
              refine G.getI dX2_takeBehindOperand_61 fkX2_28 fr2_6 h (fun v42 h => ?_)
              refine G.if_ne 119 dX2_takeBehindOperand_64 (by decide) h (fun c43 h => ?_) (fun c43 h => ?_)
              · refine G.aload_n dX2_takeBehindOperand_67 rfl rfl ?_
                refine G.getI dX2_takeBehindOperand_68 fkX2_38 fr2_9 h (fun v44 h => ?_)
                refine G.if_ne 119 dX2_takeBehindOperand_71 (by decide) h (fun c45 h => ?_) (fun c45 h => ?_)
                · refine G.sub (lv' := [(0, .ref a0), (1, .int a1), (2, .ref a2)]) [0, 1, 2] rfl ?_
                  exact Jj20  h
                · refine G.sub (lv' := [(0, .ref a0), (1, .int a1), (2, .ref a2)]) [0, 1, 2] rfl ?_
                  exact Jj40  h
              · refine G.sub (lv' := [(0, .ref a0), (1, .int a1), (2, .ref a2)]) [0, 1, 2] rfl ?_
                exact Jj40  h
        · refine G.sub (lv' := [(0, .ref a0), (1, .int a1), (2, .ref a2)]) [0, 1, 2] rfl ?_
          exact Jj20  h
    · intro j46 Jj46 h
      refine G.icmp_ne 46 dX2_takeBehindOperand_3 (by decide) h (fun c47 h => ?_) (fun c47 h => ?_)
      · refine G.aload_n dX2_takeBehindOperand_6 rfl rfl ?_
        refine G.getI dX2_takeBehindOperand_7 fkX2_28 fr2_6 h (fun v48 h => ?_)
        refine G.if_le 46 dX2_takeBehindOperand_10 (by decide) h (fun c49 h => ?_) (fun c49 h => ?_)
        · refine G.sub (lv' := [(0, .ref a0), (1, .int a1), (2, .ref a2)]) [0, 1, 2] rfl ?_
          exact Jj46  h
        · refine G.aload_n dX2_takeBehindOperand_13 rfl rfl ?_
          refine G.iconst (1 : Int32) dX2_takeBehindOperand_14 ki_1 ?_
          refine G.aload_n dX2_takeBehindOperand_15 rfl rfl ?_
          refine G.callVv (ci := 2) [.int (1 : Int32), .ref a2] [] dX2_takeBehindOperand_16 lkX2_96 okX2_release rfl (fun v hv => C_X2_release hv) (Nat.le_of_ble_eq_true rfl) rfl rfl (Nat.le_of_ble_eq_true rfl) h (fun M51 h => ?_)
          refine G.aload_n dX2_takeBehindOperand_19 rfl rfl ?_
          refine G.iconst (0 : Int32) dX2_takeBehindOperand_20 ki_0 ?_
          refine G.aload_n dX2_takeBehindOperand_21 rfl rfl ?_
          refine G.getI dX2_takeBehindOperand_22 fkX2_18 fr2_3 h (fun v52 h => ?_)
          refine G.iconst (1 : Int32) dX2_takeBehindOperand_25 ki_1 ?_
          refine G.isub dX2_takeBehindOperand_26 ?_
          refine G.mmax dX2_takeBehindOperand_27 lmX2_110 mm_max_1 mm_2 mm_max_3 (Nat.le_of_ble_eq_true rfl) (Nat.le_of_ble_eq_true rfl) ?_
          refine G.putI dX2_takeBehindOperand_30 fkX2_18 nf2_3 ft2_3 h (fun M53 h => ?_)
          refine G.aload_n dX2_takeBehindOperand_33 rfl rfl ?_
          refine G.dup dX2_takeBehindOperand_34 rfl ?_
          refine G.getI dX2_takeBehindOperand_35 fkX2_28 fr2_6 h (fun v54 h => ?_)
          refine G.iconst (1 : Int32) dX2_takeBehindOperand_38 ki_1 ?_
          refine G.isub dX2_takeBehindOperand_39 ?_
          refine G.putI dX2_takeBehindOperand_40 fkX2_28 nf2_6 ft2_6 h (fun M55 h => ?_)
          refine G.goto 182 dX2_takeBehindOperand_43 (by decide) ?_
          refine G.sub (lv' := [(0, .ref a0), (1, .int a1)]) [0, 1] rfl ?_
          exact Jj4 _ h
      · refine G.sub (lv' := [(0, .ref a0), (1, .int a1), (2, .ref a2)]) [0, 1, 2] rfl ?_
        exact Jj46  h
-- OnlyUpward$Tokens.valueAt(I)J
set_option maxRecDepth 100000 in
set_option maxHeartbeats 4000000 in
def F_X9_valueAt (n : Nat) (M : AM) (a0 : Nat) (a1 : Int32) : Option Int64 :=
  jn (fun (u1 : Int64) => some u1) fun j2 => jn (j2 (0 : Int64)) fun j3 => if a1 < 0 then j3 else (gI 9 4 M a0).bind fun v5 => if v5 ≤ a1 then j3 else (gR 9 2 M a0).bind fun v7 => (rdL M v7 a1).bind fun v8 => j2 v8
set_option maxRecDepth 100000 in
set_option maxHeartbeats 4000000 in
theorem C_X9_valueAt {n : Nat} {M : AM} {a0 : Nat} {a1 : Int32} {o : Int64} (h : F_X9_valueAt n M a0 a1 = some o) : Cn yX9_valueAt cX9_valueAt 2 (some .long) 0 [.ref a0, .int a1] M (some (.long o)) M := by
  unfold F_X9_valueAt at h
  refine Cn.of rfl (Nat.le_of_ble_eq_true rfl) ?_
  show G yX9_valueAt cX9_valueAt 2 (some .long) 0 0 [(0, .ref a0), (1, .int a1)] [] M (some (.long o)) M
  refine G.iload_n dX9_valueAt_0 rfl rfl ?_
  refine jn_elim (fun j2 => ∀ (u1 : Int64), j2 u1 = some o → G yX9_valueAt cX9_valueAt 2 (some .long) 0 22 [] [.long u1] M (some (.long o)) M) h ?_ ?_
  · intro u1 h
    exact G.lret dX9_valueAt_22 rfl h
  · intro j2 Jj2 h
    refine jn_elim (fun j3 => j3 = some o → G yX9_valueAt cX9_valueAt 2 (some .long) 0 21 [] [] M (some (.long o)) M) h ?_ ?_
    · intro h
      refine G.lconst (0 : Int64) dX9_valueAt_21 rfl ?_
      refine G.sub (lv' := []) [] rfl ?_
      exact Jj2 _ h
    · intro j3 Jj3 h
      refine G.if_lt 21 dX9_valueAt_1 (by decide) h (fun c4 h => ?_) (fun c4 h => ?_)
      · refine G.sub (lv' := []) [] rfl ?_
        exact Jj3  h
      · refine G.iload_n dX9_valueAt_4 rfl rfl ?_
        refine G.aload_n dX9_valueAt_5 rfl rfl ?_
        refine G.getI dX9_valueAt_6 fkX9_25 fr9_4 h (fun v5 h => ?_)
        refine G.icmp_ge 21 dX9_valueAt_9 (by decide) h (fun c6 h => ?_) (fun c6 h => ?_)
        · refine G.sub (lv' := []) [] rfl ?_
          exact Jj3  h
        · refine G.aload_n dX9_valueAt_12 rfl rfl ?_
          refine G.getR dX9_valueAt_13 fkX9_18 fr9_2 h (fun v7 h => ?_)
          refine G.iload_n dX9_valueAt_16 rfl rfl ?_
          refine G.lald dX9_valueAt_17 h (fun v8 h => ?_)
          refine G.goto 22 dX9_valueAt_18 (by decide) ?_
          refine G.sub (lv' := []) [] rfl ?_
          exact Jj2 _ h
-- OnlyUpward$Grammar.takeOperand(ILOnlyUpward$Laws;)V
set_option maxRecDepth 100000 in
set_option maxHeartbeats 4000000 in
def F_X2_takeOperand (n : Nat) (M : AM) (a0 : Nat) (a1 : Int32) (a2 : Nat) : Option AM :=
  jn (fun (M1 : AM) => jn (fun (M2 : AM) => jn (fun (M3 : AM) => (rcv 2 M3 a0 (F_X2_take n M3 a0 a1)).bind fun M5 => some M5) fun j6 => if a1 = (15 : Int32) then j6 M2 else (pZ 2 8 M2 a0 (1 : Int32)).bind fun M8 => j6 M8) fun j9 => if a1 = (32 : Int32) then (gI 2 6 M1 a0).bind fun v11 => (pI 2 6 M1 a0 (v11 + (1 : Int32))).bind fun M12 => j9 M12 else j9 M1) fun j13 => jn ((rcv 2 M a0 (F_X2_push n M a0 a1)).bind fun M15 => j13 M15) fun j16 => jn (jn (if a1 = (32 : Int32) then (pI 2 5 M a0 (2 : Int32)).bind fun M18 => j13 M18 else jn ((gR 2 0 M a0).bind fun v19 => (gI 2 4 M a0).bind fun v20 => (rcv 9 M v19 (F_X9_valueAt n M v19 v20)).bind fun v21 => (rcv 4 M a2 (F_X4_put n M a2 a1 (v21).toInt32)).bind fun M23 => (pZ 2 7 M23 a0 (1 : Int32)).bind fun M24 => j13 M24) fun j25 => if a1 = (21 : Int32) then j25 else jn ((pI 2 5 M a0 (1 : Int32)).bind fun M27 => j13 M27) fun j28 => if a1 < (16 : Int32) then j28 else if (19 : Int32) < a1 then j28 else j25) fun j31 => if a1 = (32 : Int32) then (gI 2 6 M a0).bind fun v33 => if (6 : Int32) ≤ v33 then j31 else j16 else j31) fun j35 => if a1 = (15 : Int32) then (gI 2 8 M a0).bind fun v37 => if v37 = 0 then j16 else j35 else j35
set_option maxRecDepth 100000 in
set_option maxHeartbeats 4000000 in
theorem C_X2_takeOperand {n : Nat} {M : AM} {a0 : Nat} {a1 : Int32} {a2 : Nat} {o : AM} (h : F_X2_takeOperand n M a0 a1 a2 = some o) : Cn yX2_takeOperand cX2_takeOperand 3 none 2 [.ref a0, .int a1, .ref a2] M none o := by
  unfold F_X2_takeOperand at h
  refine Cn.of rfl (Nat.le_of_ble_eq_true rfl) ?_
  show G yX2_takeOperand cX2_takeOperand 3 none 2 0 [(0, .ref a0), (1, .int a1), (2, .ref a2)] [] M none o
  refine G.iload_n dX2_takeOperand_0 rfl rfl ?_
  refine G.bipush (15 : Int32) dX2_takeOperand_1 kb_15 ?_
  refine jn_elim (fun j13 => ∀ (M1 : AM), j13 M1 = some o → G yX2_takeOperand cX2_takeOperand 3 none 2 98 [(0, .ref a0), (1, .int a1)] [] M1 none o) h ?_ ?_
  · intro M1 h
    refine G.iload_n dX2_takeOperand_98 rfl rfl ?_
    refine G.bipush (32 : Int32) dX2_takeOperand_99 kb_32 ?_
    refine jn_elim (fun j9 => ∀ (M2 : AM), j9 M2 = some o → G yX2_takeOperand cX2_takeOperand 3 none 2 114 [(0, .ref a0), (1, .int a1)] [] M2 none o) h ?_ ?_
    · intro M2 h
      refine G.iload_n dX2_takeOperand_114 rfl rfl ?_
      refine G.bipush (15 : Int32) dX2_takeOperand_115 kb_15 ?_
      refine jn_elim (fun j6 => ∀ (M3 : AM), j6 M3 = some o → G yX2_takeOperand cX2_takeOperand 3 none 2 125 [(0, .ref a0), (1, .int a1)] [] M3 none o) h ?_ ?_
      · intro M3 h
        refine G.aload_n dX2_takeOperand_125 rfl rfl ?_
        refine G.iload_n dX2_takeOperand_126 rfl rfl ?_
        refine G.callVv (ci := 2) [.int a1] [] dX2_takeOperand_127 lkX2_64 okX2_take rfl (fun v hv => C_X2_take hv) (Nat.le_of_ble_eq_true rfl) rfl rfl (Nat.le_of_ble_eq_true rfl) h (fun M5 h => ?_)
        exact G.vretW dX2_takeOperand_130 rfl h
      · intro j6 Jj6 h
        refine G.icmp_eq 125 dX2_takeOperand_117 (by decide) h (fun c7 h => ?_) (fun c7 h => ?_)
        · refine G.sub (lv' := [(0, .ref a0), (1, .int a1)]) [0, 1] rfl ?_
          exact Jj6 _ h
        · refine G.aload_n dX2_takeOperand_120 rfl rfl ?_
          refine G.iconst (1 : Int32) dX2_takeOperand_121 ki_1 ?_
          refine G.putZ dX2_takeOperand_122 fkX2_35 nf2_8 ft2_8 h (fun M8 h => ?_)
          refine G.sub (lv' := [(0, .ref a0), (1, .int a1)]) [0, 1] rfl ?_
          exact Jj6 _ h
    · intro j9 Jj9 h
      refine G.icmp_ne 114 dX2_takeOperand_101 (by decide) h (fun c10 h => ?_) (fun c10 h => ?_)
      · refine G.aload_n dX2_takeOperand_104 rfl rfl ?_
        refine G.dup dX2_takeOperand_105 rfl ?_
        refine G.getI dX2_takeOperand_106 fkX2_28 fr2_6 h (fun v11 h => ?_)
        refine G.iconst (1 : Int32) dX2_takeOperand_109 ki_1 ?_
        refine G.iadd dX2_takeOperand_110 ?_
        refine G.putI dX2_takeOperand_111 fkX2_28 nf2_6 ft2_6 h (fun M12 h => ?_)
        refine G.sub (lv' := [(0, .ref a0), (1, .int a1)]) [0, 1] rfl ?_
        exact Jj9 _ h
      · refine G.sub (lv' := [(0, .ref a0), (1, .int a1)]) [0, 1] rfl ?_
        exact Jj9 _ h
  · intro j13 Jj13 h
    refine jn_elim (fun j16 => j16 = some o → G yX2_takeOperand cX2_takeOperand 3 none 2 28 [(0, .ref a0), (1, .int a1)] [] M none o) h ?_ ?_
    · intro h
      refine G.aload_n dX2_takeOperand_28 rfl rfl ?_
      refine G.iload_n dX2_takeOperand_29 rfl rfl ?_
      refine G.callVv (ci := 2) [.int a1] [] dX2_takeOperand_30 lkX2_99 okX2_push rfl (fun v hv => C_X2_push hv) (Nat.le_of_ble_eq_true rfl) rfl rfl (Nat.le_of_ble_eq_true rfl) h (fun M15 h => ?_)
      refine G.goto 98 dX2_takeOperand_33 (by decide) ?_
      refine G.sub (lv' := [(0, .ref a0), (1, .int a1)]) [0, 1] rfl ?_
      exact Jj13 _ h
    · intro j16 Jj16 h
      refine jn_elim (fun j35 => j35 = some o → G yX2_takeOperand cX2_takeOperand 3 none 2 13 [(0, .ref a0), (1, .int a1), (2, .ref a2)] [] M none o) h ?_ ?_
      · intro h
        refine G.iload_n dX2_takeOperand_13 rfl rfl ?_
        refine G.bipush (32 : Int32) dX2_takeOperand_14 kb_32 ?_
        refine jn_elim (fun j31 => j31 = some o → G yX2_takeOperand cX2_takeOperand 3 none 2 36 [(0, .ref a0), (1, .int a1), (2, .ref a2)] [] M none o) h ?_ ?_
        · intro h
          refine G.iload_n dX2_takeOperand_36 rfl rfl ?_
          refine G.bipush (32 : Int32) dX2_takeOperand_37 kb_32 ?_
          refine G.icmp_ne 50 dX2_takeOperand_39 (by decide) h (fun c17 h => ?_) (fun c17 h => ?_)
          · refine G.aload_n dX2_takeOperand_42 rfl rfl ?_
            refine G.iconst (2 : Int32) dX2_takeOperand_43 ki_2 ?_
            refine G.putI dX2_takeOperand_44 fkX2_25 nf2_5 ft2_5 h (fun M18 h => ?_)
            refine G.goto 98 dX2_takeOperand_47 (by decide) ?_
            refine G.sub (lv' := [(0, .ref a0), (1, .int a1)]) [0, 1] rfl ?_
            exact Jj13 _ h
          · refine G.iload_n dX2_takeOperand_50 rfl rfl ?_
            refine G.bipush (21 : Int32) dX2_takeOperand_51 kb_21 ?_
            refine jn_elim (fun j25 => j25 = some o → G yX2_takeOperand cX2_takeOperand 3 none 2 68 [(0, .ref a0), (1, .int a1), (2, .ref a2)] [] M none o) h ?_ ?_
            · intro h
              refine G.aload_n dX2_takeOperand_68 rfl rfl ?_
              refine G.iload_n dX2_takeOperand_69 rfl rfl ?_
              refine G.aload_n dX2_takeOperand_70 rfl rfl ?_
              refine G.getR dX2_takeOperand_71 fkX2_41 fr2_0 h (fun v19 h => ?_)
              refine G.aload_n dX2_takeOperand_74 rfl rfl ?_
              refine G.getI dX2_takeOperand_75 fkX2_22 fr2_4 h (fun v20 h => ?_)
              refine G.callVl (ci := 9) [.int v20] [.int a1, .ref a2] dX2_takeOperand_78 lkX2_102 okX9_valueAt rfl (fun v hv => C_X9_valueAt hv) (Nat.le_of_ble_eq_true rfl) rfl rfl (Nat.le_of_ble_eq_true rfl) h (fun v21 h => ?_)
              refine G.l2i dX2_takeOperand_81 ?_
              refine G.callVv (ci := 4) [.int a1, .int (v21).toInt32] [] dX2_takeOperand_82 lkX2_106 okX4_put rfl (fun v hv => C_X4_put hv) (Nat.le_of_ble_eq_true rfl) rfl rfl (Nat.le_of_ble_eq_true rfl) h (fun M23 h => ?_)
              refine G.aload_n dX2_takeOperand_85 rfl rfl ?_
              refine G.iconst (1 : Int32) dX2_takeOperand_86 ki_1 ?_
              refine G.putZ dX2_takeOperand_87 fkX2_31 nf2_7 ft2_7 h (fun M24 h => ?_)
              refine G.goto 98 dX2_takeOperand_90 (by decide) ?_
              refine G.sub (lv' := [(0, .ref a0), (1, .int a1)]) [0, 1] rfl ?_
              exact Jj13 _ h
            · intro j25 Jj25 h
              refine G.icmp_eq 68 dX2_takeOperand_53 (by decide) h (fun c26 h => ?_) (fun c26 h => ?_)
              · refine G.sub (lv' := [(0, .ref a0), (1, .int a1), (2, .ref a2)]) [0, 1, 2] rfl ?_
                exact Jj25  h
              · refine G.iload_n dX2_takeOperand_56 rfl rfl ?_
                refine G.bipush (16 : Int32) dX2_takeOperand_57 kb_16 ?_
                refine jn_elim (fun j28 => j28 = some o → G yX2_takeOperand cX2_takeOperand 3 none 2 93 [(0, .ref a0), (1, .int a1)] [] M none o) h ?_ ?_
                · intro h
                  refine G.aload_n dX2_takeOperand_93 rfl rfl ?_
                  refine G.iconst (1 : Int32) dX2_takeOperand_94 ki_1 ?_
                  refine G.putI dX2_takeOperand_95 fkX2_25 nf2_5 ft2_5 h (fun M27 h => ?_)
                  refine G.sub (lv' := [(0, .ref a0), (1, .int a1)]) [0, 1] rfl ?_
                  exact Jj13 _ h
                · intro j28 Jj28 h
                  refine G.icmp_lt 93 dX2_takeOperand_59 (by decide) h (fun c29 h => ?_) (fun c29 h => ?_)
                  · refine G.sub (lv' := [(0, .ref a0), (1, .int a1)]) [0, 1] rfl ?_
                    exact Jj28  h
                  · refine G.iload_n dX2_takeOperand_62 rfl rfl ?_
                    refine G.bipush (19 : Int32) dX2_takeOperand_63 kb_19 ?_
                    refine G.icmp_gt 93 dX2_takeOperand_65 (by decide) h (fun c30 h => ?_) (fun c30 h => ?_)
                    · refine G.sub (lv' := [(0, .ref a0), (1, .int a1)]) [0, 1] rfl ?_
                      exact Jj28  h
                    · refine G.sub (lv' := [(0, .ref a0), (1, .int a1), (2, .ref a2)]) [0, 1, 2] rfl ?_
                      exact Jj25  h
        · intro j31 Jj31 h
          refine G.icmp_ne 36 dX2_takeOperand_16 (by decide) h (fun c32 h => ?_) (fun c32 h => ?_)
          · refine G.aload_n dX2_takeOperand_19 rfl rfl ?_
            refine G.getI dX2_takeOperand_20 fkX2_28 fr2_6 h (fun v33 h => ?_)
            refine G.bipush (6 : Int32) dX2_takeOperand_23 kb_6 ?_
            refine G.icmp_ge 36 dX2_takeOperand_25 (by decide) h (fun c34 h => ?_) (fun c34 h => ?_)
            · refine G.sub (lv' := [(0, .ref a0), (1, .int a1), (2, .ref a2)]) [0, 1, 2] rfl ?_
              exact Jj31  h
            · refine G.sub (lv' := [(0, .ref a0), (1, .int a1)]) [0, 1] rfl ?_
              exact Jj16  h
          · refine G.sub (lv' := [(0, .ref a0), (1, .int a1), (2, .ref a2)]) [0, 1, 2] rfl ?_
            exact Jj31  h
      · intro j35 Jj35 h
        refine G.icmp_ne 13 dX2_takeOperand_3 (by decide) h (fun c36 h => ?_) (fun c36 h => ?_)
        · refine G.aload_n dX2_takeOperand_6 rfl rfl ?_
          refine G.getI dX2_takeOperand_7 fkX2_35 fr2_8 h (fun v37 h => ?_)
          refine G.if_eq 28 dX2_takeOperand_10 (by decide) h (fun c38 h => ?_) (fun c38 h => ?_)
          · refine G.sub (lv' := [(0, .ref a0), (1, .int a1)]) [0, 1] rfl ?_
            exact Jj16  h
          · refine G.sub (lv' := [(0, .ref a0), (1, .int a1), (2, .ref a2)]) [0, 1, 2] rfl ?_
            exact Jj35  h
        · refine G.sub (lv' := [(0, .ref a0), (1, .int a1), (2, .ref a2)]) [0, 1, 2] rfl ?_
          exact Jj35  h
-- OnlyUpward$Grammar.takeCondition(LOnlyUpward$Laws;)V
set_option maxRecDepth 100000 in
set_option maxHeartbeats 4000000 in
def F_X2_takeCondition (n : Nat) (M : AM) (a0 : Nat) (a1 : Nat) : Option AM :=
  (pI 2 3 M a0 (0 : Int32)).bind fun M1 => (pI 2 6 M1 a0 (0 : Int32)).bind fun M2 => (pZ 2 7 M2 a0 (0 : Int32)).bind fun M3 => (pZ 2 8 M3 a0 (0 : Int32)).bind fun M4 => (pZ 2 9 M4 a0 (0 : Int32)).bind fun M5 => (iter (fun (s6 : Int32 × AM) => if (400 : Int32) < s6.1 then some (.inr s6.2) else (gI 2 5 s6.2 a0).bind fun v8 => if v8 = 0 then (gR 2 0 s6.2 a0).bind fun v10 => (gI 2 4 s6.2 a0).bind fun v11 => (rcv 9 s6.2 v10 (F_X9_kindAt n s6.2 v10 v11)).bind fun v12 => jn ((gI 2 7 s6.2 a0).bind fun v13 => jn (fun (M14 : AM) => some (.inl ((s6.1 + (1 : Int32)), M14))) fun j15 => if v13 = 0 then (rcv 2 s6.2 a0 (F_X2_takeOperand n s6.2 a0 v12 a1)).bind fun M18 => j15 M18 else (rcv 2 s6.2 a0 (F_X2_takeBehindOperand n s6.2 a0 v12 a1)).bind fun M20 => j15 M20) fun j21 => if v12 = (22 : Int32) then (gI 2 7 s6.2 a0).bind fun v23 => if v23 = 0 then j21 else (gI 2 6 s6.2 a0).bind fun v25 => if v25 = 0 then (gI 2 9 s6.2 a0).bind fun v27 => if v27 = 0 then j21 else some (.inr s6.2) else j21 else j21 else some (.inr s6.2)) n ((0 : Int32), M5)).bind fun (e6 : AM) => (rcv 2 e6 a0 (F_X2_release n e6 a0 (1 : Int32) a1)).bind fun M30 => some M30
set_option maxRecDepth 100000 in
set_option maxHeartbeats 4000000 in
theorem C_X2_takeCondition {n : Nat} {M : AM} {a0 : Nat} {a1 : Nat} {o : AM} (h : F_X2_takeCondition n M a0 a1 = some o) : Cn yX2_takeCondition cX2_takeCondition 4 none 4 [.ref a0, .ref a1] M none o := by
  unfold F_X2_takeCondition at h
  refine Cn.of rfl (Nat.le_of_ble_eq_true rfl) ?_
  show G yX2_takeCondition cX2_takeCondition 4 none 4 0 [(0, .ref a0), (1, .ref a1)] [] M none o
  refine G.aload_n dX2_takeCondition_0 rfl rfl ?_
  refine G.iconst (0 : Int32) dX2_takeCondition_1 ki_0 ?_
  refine G.putI dX2_takeCondition_2 fkX2_18 nf2_3 ft2_3 h (fun M1 h => ?_)
  refine G.aload_n dX2_takeCondition_5 rfl rfl ?_
  refine G.iconst (0 : Int32) dX2_takeCondition_6 ki_0 ?_
  refine G.putI dX2_takeCondition_7 fkX2_28 nf2_6 ft2_6 h (fun M2 h => ?_)
  refine G.aload_n dX2_takeCondition_10 rfl rfl ?_
  refine G.iconst (0 : Int32) dX2_takeCondition_11 ki_0 ?_
  refine G.putZ dX2_takeCondition_12 fkX2_31 nf2_7 ft2_7 h (fun M3 h => ?_)
  refine G.aload_n dX2_takeCondition_15 rfl rfl ?_
  refine G.iconst (0 : Int32) dX2_takeCondition_16 ki_0 ?_
  refine G.putZ dX2_takeCondition_17 fkX2_35 nf2_8 ft2_8 h (fun M4 h => ?_)
  refine G.aload_n dX2_takeCondition_20 rfl rfl ?_
  refine G.iconst (0 : Int32) dX2_takeCondition_21 ki_0 ?_
  refine G.putZ dX2_takeCondition_22 fkX2_38 nf2_9 ft2_9 h (fun M5 h => ?_)
  refine G.iconst (0 : Int32) dX2_takeCondition_25 ki_0 ?_
  refine G.istore_n (lv' := [(2, .int (0 : Int32)), (0, .ref a0), (1, .ref a1)]) dX2_takeCondition_26 rfl (Nat.le_of_ble_eq_true rfl) rfl ?_
  refine G.sub (lv' := [(0, .ref a0), (1, .ref a1), (2, .int (0 : Int32))]) [1, 2, 0] rfl ?_
  refine loopE (fun (s6 : Int32 × AM) => G yX2_takeCondition cX2_takeCondition 4 none 4 27 [(0, .ref a0), (1, .ref a1), (2, .int s6.1)] [] s6.2 none o) (fun (e6 : AM) => G yX2_takeCondition cX2_takeCondition 4 none 4 111 [(0, .ref a0), (1, .ref a1)] [] e6 none o) h ?_ ?_
  · intro e6 h
    show G yX2_takeCondition cX2_takeCondition 4 none 4 111 [(0, .ref a0), (1, .ref a1)] [] e6 none o
    refine G.aload_n dX2_takeCondition_111 rfl rfl ?_
    refine G.iconst (1 : Int32) dX2_takeCondition_112 ki_1 ?_
    refine G.aload_n dX2_takeCondition_113 rfl rfl ?_
    refine G.callVv (ci := 2) [.int (1 : Int32), .ref a1] [] dX2_takeCondition_114 lkX2_96 okX2_release rfl (fun v hv => C_X2_release hv) (Nat.le_of_ble_eq_true rfl) rfl rfl (Nat.le_of_ble_eq_true rfl) h (fun M30 h => ?_)
    exact G.vretW dX2_takeCondition_117 rfl h
  · intro s6 x6 h K6
    show G yX2_takeCondition cX2_takeCondition 4 none 4 27 [(0, .ref a0), (1, .ref a1), (2, .int s6.1)] [] s6.2 none o
    refine G.iload_n dX2_takeCondition_27 rfl rfl ?_
    refine G.sipush (400 : Int32) dX2_takeCondition_28 ks_400 ?_
    refine G.icmp_gt 111 dX2_takeCondition_31 (by decide) h (fun c7 h => ?_) (fun c7 h => ?_)
    · refine G.sub (lv' := [(0, .ref a0), (1, .ref a1)]) [0, 1] rfl ?_
      have h := leafR' h K6
      exact h
    · refine G.aload_n dX2_takeCondition_34 rfl rfl ?_
      refine G.getI dX2_takeCondition_35 fkX2_25 fr2_5 h (fun v8 h => ?_)
      refine G.if_ne 111 dX2_takeCondition_38 (by decide) h (fun c9 h => ?_) (fun c9 h => ?_)
      · refine G.aload_n dX2_takeCondition_41 rfl rfl ?_
        refine G.getR dX2_takeCondition_42 fkX2_41 fr2_0 h (fun v10 h => ?_)
        refine G.aload_n dX2_takeCondition_45 rfl rfl ?_
        refine G.getI dX2_takeCondition_46 fkX2_22 fr2_4 h (fun v11 h => ?_)
        refine G.callVi (ci := 9) [.int v11] [] dX2_takeCondition_49 lkX2_51 okX9_kindAt rfl (fun v hv => C_X9_kindAt hv) (Nat.le_of_ble_eq_true rfl) rfl rfl (Nat.le_of_ble_eq_true rfl) h (fun v12 h => ?_)
        refine G.istore_n (lv' := [(3, .int v12), (0, .ref a0), (1, .ref a1), (2, .int s6.1)]) dX2_takeCondition_52 rfl (Nat.le_of_ble_eq_true rfl) rfl ?_
        refine G.iload_n dX2_takeCondition_53 rfl rfl ?_
        refine G.bipush (22 : Int32) dX2_takeCondition_54 kb_22 ?_
        refine jn_elim (fun j21 => j21 = some x6 → G yX2_takeCondition cX2_takeCondition 4 none 4 83 [(0, .ref a0), (1, .ref a1), (2, .int s6.1), (3, .int v12)] [] s6.2 none o) h ?_ ?_
        · intro h
          refine G.aload_n dX2_takeCondition_83 rfl rfl ?_
          refine G.getI dX2_takeCondition_84 fkX2_31 fr2_7 h (fun v13 h => ?_)
          refine jn_elim (fun j15 => ∀ (M14 : AM), j15 M14 = some x6 → G yX2_takeCondition cX2_takeCondition 4 none 4 105 [(0, .ref a0), (1, .ref a1), (2, .int s6.1)] [] M14 none o) h ?_ ?_
          · intro M14 h
            refine G.iinc s6.1 (w := (s6.1 + (1 : Int32))) (lv' := [(2, .int (s6.1 + (1 : Int32))), (0, .ref a0), (1, .ref a1)]) dX2_takeCondition_105 rfl rfl (Nat.le_of_ble_eq_true rfl) rfl ?_
            refine G.goto 27 dX2_takeCondition_108 (by decide) ?_
            refine G.sub (lv' := [(0, .ref a0), (1, .ref a1), (2, .int (s6.1 + (1 : Int32)))]) [1, 2, 0] rfl ?_
            have h := leafL' h K6
            exact h
          · intro j15 Jj15 h
            refine G.if_eq 99 dX2_takeCondition_87 (by decide) h (fun c16 h => ?_) (fun c16 h => ?_)
            · refine G.aload_n dX2_takeCondition_99 rfl rfl ?_
              refine G.iload_n dX2_takeCondition_100 rfl rfl ?_
              refine G.aload_n dX2_takeCondition_101 rfl rfl ?_
              refine G.callVv (ci := 2) [.int v12, .ref a1] [] dX2_takeCondition_102 lkX2_93 okX2_takeOperand rfl (fun v hv => C_X2_takeOperand hv) (Nat.le_of_ble_eq_true rfl) rfl rfl (Nat.le_of_ble_eq_true rfl) h (fun M18 h => ?_)
              refine G.sub (lv' := [(0, .ref a0), (1, .ref a1), (2, .int s6.1)]) [0, 1, 2] rfl ?_
              exact Jj15 _ h
            · refine G.aload_n dX2_takeCondition_90 rfl rfl ?_
              refine G.iload_n dX2_takeCondition_91 rfl rfl ?_
              refine G.aload_n dX2_takeCondition_92 rfl rfl ?_
              refine G.callVv (ci := 2) [.int v12, .ref a1] [] dX2_takeCondition_93 lkX2_89 okX2_takeBehindOperand rfl (fun v hv => C_X2_takeBehindOperand hv) (Nat.le_of_ble_eq_true rfl) rfl rfl (Nat.le_of_ble_eq_true rfl) h (fun M20 h => ?_)
              refine G.goto 105 dX2_takeCondition_96 (by decide) ?_
              refine G.sub (lv' := [(0, .ref a0), (1, .ref a1), (2, .int s6.1)]) [0, 1, 2] rfl ?_
              exact Jj15 _ h
        · intro j21 Jj21 h
          refine G.icmp_ne 83 dX2_takeCondition_56 (by decide) h (fun c22 h => ?_) (fun c22 h => ?_)
          · refine G.aload_n dX2_takeCondition_59 rfl rfl ?_
            refine G.getI dX2_takeCondition_60 fkX2_31 fr2_7 h (fun v23 h => ?_)
            refine G.if_eq 83 dX2_takeCondition_63 (by decide) h (fun c24 h => ?_) (fun c24 h => ?_)
            · refine G.sub (lv' := [(0, .ref a0), (1, .ref a1), (2, .int s6.1), (3, .int v12)]) [1, 2, 3, 0] rfl ?_
              exact Jj21  h
            · refine G.aload_n dX2_takeCondition_66 rfl rfl ?_
              refine G.getI dX2_takeCondition_67 fkX2_28 fr2_6 h (fun v25 h => ?_)
              refine G.if_ne 83 dX2_takeCondition_70 (by decide) h (fun c26 h => ?_) (fun c26 h => ?_)
              · refine G.aload_n dX2_takeCondition_73 rfl rfl ?_
                refine G.getI dX2_takeCondition_74 fkX2_38 fr2_9 h (fun v27 h => ?_)
                refine G.if_eq 83 dX2_takeCondition_77 (by decide) h (fun c28 h => ?_) (fun c28 h => ?_)
                · refine G.sub (lv' := [(0, .ref a0), (1, .ref a1), (2, .int s6.1), (3, .int v12)]) [1, 2, 3, 0] rfl ?_
                  exact Jj21  h
                · refine G.goto 111 dX2_takeCondition_80 (by decide) ?_
                  refine G.sub (lv' := [(0, .ref a0), (1, .ref a1)]) [1, 2] rfl ?_
                  have h := leafR' h K6
                  exact h
              · refine G.sub (lv' := [(0, .ref a0), (1, .ref a1), (2, .int s6.1), (3, .int v12)]) [1, 2, 3, 0] rfl ?_
                exact Jj21  h
          · refine G.sub (lv' := [(0, .ref a0), (1, .ref a1), (2, .int s6.1), (3, .int v12)]) [1, 2, 3, 0] rfl ?_
            exact Jj21  h
      · refine G.sub (lv' := [(0, .ref a0), (1, .ref a1)]) [0, 1] rfl ?_
        have h := leafR' h K6
        exact h
-- OnlyUpward$Laws.end()V
set_option maxRecDepth 100000 in
set_option maxHeartbeats 4000000 in
def F_X4_end (n : Nat) (M : AM) (a0 : Nat) : Option AM :=
  (gR 4 3 M a0).bind fun v1 => (gI 4 8 M a0).bind fun v2 => (gI 4 7 M a0).bind fun v3 => (wrI M v1 v2 v3).bind fun M4 => some M4
set_option maxRecDepth 100000 in
set_option maxHeartbeats 4000000 in
theorem C_X4_end {n : Nat} {M : AM} {a0 : Nat} {o : AM} (h : F_X4_end n M a0 = some o) : Cn yX4_end cX4_end 1 none 0 [.ref a0] M none o := by
  unfold F_X4_end at h
  refine Cn.of rfl (Nat.le_of_ble_eq_true rfl) ?_
  show G yX4_end cX4_end 1 none 0 0 [(0, .ref a0)] [] M none o
  refine G.aload_n dX4_end_0 rfl rfl ?_
  refine G.getR dX4_end_1 fkX4_21 fr4_3 h (fun v1 h => ?_)
  refine G.aload_n dX4_end_4 rfl rfl ?_
  refine G.getI dX4_end_5 fkX4_37 fr4_8 h (fun v2 h => ?_)
  refine G.aload_n dX4_end_8 rfl rfl ?_
  refine G.getI dX4_end_9 fkX4_33 fr4_7 h (fun v3 h => ?_)
  refine G.iast dX4_end_12 h (fun M4 h => ?_)
  exact G.vretW dX4_end_13 rfl h
-- OnlyUpward$Grammar.checkTell(LOnlyUpward$Laws;)V
set_option maxRecDepth 100000 in
set_option maxHeartbeats 4000000 in
def F_X2_checkTell (n : Nat) (M : AM) (a0 : Nat) (a1 : Nat) : Option AM :=
  (gR 2 0 M a0).bind fun v1 => (gI 2 4 M a0).bind fun v2 => (rcv 9 M v1 (F_X9_kindAt n M v1 v2)).bind fun v3 => if v3 < (11 : Int32) then (gR 2 1 M a0).bind fun v5 => (rdI M v5 v3).bind fun v6 => (wrI M v5 v3 (v6 + (1 : Int32))).bind fun M7 => (gR 2 1 M7 a0).bind fun v8 => (rdI M7 v8 v3).bind fun v9 => (rdI M7 1 v3).bind fun v10 => if v9 ≤ v10 then (rcv 2 M7 a0 (F_X2_take n M7 a0 v3)).bind fun M13 => (iter (fun (s14 : Int32 × AM) => (rdI s14.2 2 v3).bind fun v15 => if v15 ≤ s14.1 then some (.inr s14.2) else (rcv 2 s14.2 a0 (F_X2_take n s14.2 a0 (20 : Int32))).bind fun M18 => some (.inl ((s14.1 + (1 : Int32)), M18))) n ((0 : Int32), M13)).bind fun (e14 : AM) => (iter (fun (s19 : Int32 × AM) => (rdI s19.2 3 v3).bind fun v20 => if v20 ≤ s19.1 then some (.inr s19.2) else (rcv 2 s19.2 a0 (F_X2_take n s19.2 a0 (21 : Int32))).bind fun M23 => some (.inl ((s19.1 + (1 : Int32)), M23))) n ((0 : Int32), e14)).bind fun (e19 : AM) => jn (fun (M24 : AM) => jn (fun (M25 : AM) => jn (fun (M26 : AM) => (rcv 2 M26 a0 (F_X2_take n M26 a0 (22 : Int32))).bind fun M28 => some M28) fun j29 => jn ((rcv 2 M25 a0 (F_X2_take n M25 a0 (12 : Int32))).bind fun M31 => jn (fun (u32 : Int32) => (rcv 4 M31 a1 (F_X4_begin n M31 a1 u32)).bind fun M34 => (rcv 2 M34 a0 (F_X2_takeCondition n M34 a0 a1)).bind fun M36 => (rcv 4 M36 a1 (F_X4_end n M36 a1)).bind fun M38 => j29 M38) fun j39 => if v3 = (10 : Int32) then j39 (1 : Int32) else j39 (0 : Int32)) fun j41 => if v3 = (9 : Int32) then j41 else if v3 = (10 : Int32) then j41 else j29 M25) fun j44 => if v3 = (8 : Int32) then (rcv 2 M24 a0 (F_X2_takeFurtherNames n M24 a0)).bind fun M47 => j44 M47 else j44 M24) fun j48 => if v3 = (1 : Int32) then (gR 2 0 e19 a0).bind fun v50 => (gI 2 4 e19 a0).bind fun v51 => (rcv 9 e19 v50 (F_X9_kindAt n e19 v50 v51)).bind fun v52 => if v52 = (11 : Int32) then (rcv 2 e19 a0 (F_X2_take n e19 a0 (11 : Int32))).bind fun M55 => (rcv 2 M55 a0 (F_X2_take n M55 a0 (21 : Int32))).bind fun M57 => j48 M57 else j48 e19 else j48 e19 else (pI 2 5 M7 a0 (2 : Int32)).bind fun M58 => some M58 else (pI 2 5 M a0 (1 : Int32)).bind fun M59 => some M59
set_option maxRecDepth 100000 in
set_option maxHeartbeats 4000000 in
theorem C_X2_checkTell {n : Nat} {M : AM} {a0 : Nat} {a1 : Nat} {o : AM} (h : F_X2_checkTell n M a0 a1 = some o) : Cn yX2_checkTell cX2_checkTell 4 none 5 [.ref a0, .ref a1] M none o := by
  unfold F_X2_checkTell at h
  refine Cn.of rfl (Nat.le_of_ble_eq_true rfl) ?_
  show G yX2_checkTell cX2_checkTell 4 none 5 0 [(0, .ref a0), (1, .ref a1)] [] M none o
  refine G.aload_n dX2_checkTell_0 rfl rfl ?_
  refine G.getR dX2_checkTell_1 fkX2_41 fr2_0 h (fun v1 h => ?_)
  refine G.aload_n dX2_checkTell_4 rfl rfl ?_
  refine G.getI dX2_checkTell_5 fkX2_22 fr2_4 h (fun v2 h => ?_)
  refine G.callVi (ci := 9) [.int v2] [] dX2_checkTell_8 lkX2_51 okX9_kindAt rfl (fun v hv => C_X9_kindAt hv) (Nat.le_of_ble_eq_true rfl) rfl rfl (Nat.le_of_ble_eq_true rfl) h (fun v3 h => ?_)
  refine G.istore_n (lv' := [(2, .int v3), (0, .ref a0), (1, .ref a1)]) dX2_checkTell_11 rfl (Nat.le_of_ble_eq_true rfl) rfl ?_
  refine G.iload_n dX2_checkTell_12 rfl rfl ?_
  refine G.bipush (11 : Int32) dX2_checkTell_13 kb_11 ?_
  refine G.icmp_lt 24 dX2_checkTell_15 (by decide) h (fun c4 h => ?_) (fun c4 h => ?_)
  · refine G.aload_n dX2_checkTell_24 rfl rfl ?_
    refine G.getR dX2_checkTell_25 fkX2_9 fr2_1 h (fun v5 h => ?_)
    refine G.iload_n dX2_checkTell_28 rfl rfl ?_
    refine G.dup2 dX2_checkTell_29 rfl rfl ?_
    refine G.iald dX2_checkTell_30 h (fun v6 h => ?_)
    refine G.iconst (1 : Int32) dX2_checkTell_31 ki_1 ?_
    refine G.iadd dX2_checkTell_32 ?_
    refine G.iast dX2_checkTell_33 h (fun M7 h => ?_)
    refine G.aload_n dX2_checkTell_34 rfl rfl ?_
    refine G.getR dX2_checkTell_35 fkX2_9 fr2_1 h (fun v8 h => ?_)
    refine G.iload_n dX2_checkTell_38 rfl rfl ?_
    refine G.iald dX2_checkTell_39 h (fun v9 h => ?_)
    refine G.gets 1 (by decide) dX2_checkTell_40 gsX2_61 ?_
    refine G.iload_n dX2_checkTell_43 rfl rfl ?_
    refine G.iald dX2_checkTell_44 h (fun v10 h => ?_)
    refine G.icmp_le 54 dX2_checkTell_45 (by decide) h (fun c11 h => ?_) (fun c11 h => ?_)
    · refine G.aload_n dX2_checkTell_54 rfl rfl ?_
      refine G.iload_n dX2_checkTell_55 rfl rfl ?_
      refine G.callVv (ci := 2) [.int v3] [] dX2_checkTell_56 lkX2_64 okX2_take rfl (fun v hv => C_X2_take hv) (Nat.le_of_ble_eq_true rfl) rfl rfl (Nat.le_of_ble_eq_true rfl) h (fun M13 h => ?_)
      refine G.iconst (0 : Int32) dX2_checkTell_59 ki_0 ?_
      refine G.istore_n (lv' := [(3, .int (0 : Int32)), (2, .int v3), (0, .ref a0), (1, .ref a1)]) dX2_checkTell_60 rfl (Nat.le_of_ble_eq_true rfl) rfl ?_
      refine G.sub (lv' := [(0, .ref a0), (1, .ref a1), (2, .int v3), (3, .int (0 : Int32))]) [2, 3, 1, 0] rfl ?_
      refine loopE (fun (s14 : Int32 × AM) => G yX2_checkTell cX2_checkTell 4 none 5 61 [(0, .ref a0), (1, .ref a1), (2, .int v3), (3, .int s14.1)] [] s14.2 none o) (fun (e14 : AM) => G yX2_checkTell cX2_checkTell 4 none 5 82 [(0, .ref a0), (1, .ref a1), (2, .int v3)] [] e14 none o) h ?_ ?_
      · intro e14 h
        show G yX2_checkTell cX2_checkTell 4 none 5 82 [(0, .ref a0), (1, .ref a1), (2, .int v3)] [] e14 none o
        refine G.iconst (0 : Int32) dX2_checkTell_82 ki_0 ?_
        refine G.istore_n (lv' := [(3, .int (0 : Int32)), (0, .ref a0), (1, .ref a1), (2, .int v3)]) dX2_checkTell_83 rfl (Nat.le_of_ble_eq_true rfl) rfl ?_
        refine G.sub (lv' := [(0, .ref a0), (1, .ref a1), (2, .int v3), (3, .int (0 : Int32))]) [1, 2, 3, 0] rfl ?_
        refine loopE (fun (s19 : Int32 × AM) => G yX2_checkTell cX2_checkTell 4 none 5 84 [(0, .ref a0), (1, .ref a1), (2, .int v3), (3, .int s19.1)] [] s19.2 none o) (fun (e19 : AM) => G yX2_checkTell cX2_checkTell 4 none 5 105 [(0, .ref a0), (1, .ref a1), (2, .int v3)] [] e19 none o) h ?_ ?_
        · intro e19 h
          show G yX2_checkTell cX2_checkTell 4 none 5 105 [(0, .ref a0), (1, .ref a1), (2, .int v3)] [] e19 none o
          refine G.iload_n dX2_checkTell_105 rfl rfl ?_
          refine G.iconst (1 : Int32) dX2_checkTell_106 ki_1 ?_
          refine jn_elim (fun j48 => ∀ (M24 : AM), j48 M24 = some o → G yX2_checkTell cX2_checkTell 4 none 5 138 [(0, .ref a0), (1, .ref a1), (2, .int v3)] [] M24 none o) h ?_ ?_
          · intro M24 h
            refine G.iload_n dX2_checkTell_138 rfl rfl ?_
            refine G.bipush (8 : Int32) dX2_checkTell_139 kb_8 ?_
            refine jn_elim (fun j44 => ∀ (M25 : AM), j44 M25 = some o → G yX2_checkTell cX2_checkTell 4 none 5 148 [(0, .ref a0), (1, .ref a1), (2, .int v3)] [] M25 none o) h ?_ ?_
            · intro M25 h
              refine G.iload_n dX2_checkTell_148 rfl rfl ?_
              refine G.bipush (9 : Int32) dX2_checkTell_149 kb_9 ?_
              refine jn_elim (fun j29 => ∀ (M26 : AM), j29 M26 = some o → G yX2_checkTell cX2_checkTell 4 none 5 190 [(0, .ref a0)] [] M26 none o) h ?_ ?_
              · intro M26 h
                refine G.aload_n dX2_checkTell_190 rfl rfl ?_
                refine G.bipush (22 : Int32) dX2_checkTell_191 kb_22 ?_
                refine G.callVv (ci := 2) [.int (22 : Int32)] [] dX2_checkTell_193 lkX2_64 okX2_take rfl (fun v hv => C_X2_take hv) (Nat.le_of_ble_eq_true rfl) rfl rfl (Nat.le_of_ble_eq_true rfl) h (fun M28 h => ?_)
                exact G.vretW dX2_checkTell_196 rfl h
              · intro j29 Jj29 h
                refine jn_elim (fun j41 => j41 = some o → G yX2_checkTell cX2_checkTell 4 none 5 160 [(0, .ref a0), (1, .ref a1), (2, .int v3)] [] M25 none o) h ?_ ?_
                · intro h
                  refine G.aload_n dX2_checkTell_160 rfl rfl ?_
                  refine G.bipush (12 : Int32) dX2_checkTell_161 kb_12 ?_
                  refine G.callVv (ci := 2) [.int (12 : Int32)] [] dX2_checkTell_163 lkX2_64 okX2_take rfl (fun v hv => C_X2_take hv) (Nat.le_of_ble_eq_true rfl) rfl rfl (Nat.le_of_ble_eq_true rfl) h (fun M31 h => ?_)
                  refine G.aload_n dX2_checkTell_166 rfl rfl ?_
                  refine G.iload_n dX2_checkTell_167 rfl rfl ?_
                  refine G.bipush (10 : Int32) dX2_checkTell_168 kb_10 ?_
                  refine jn_elim (fun j39 => ∀ (u32 : Int32), j39 u32 = some o → G yX2_checkTell cX2_checkTell 4 none 5 178 [(0, .ref a0), (1, .ref a1)] [.int u32, .ref a1] M31 none o) h ?_ ?_
                  · intro u32 h
                    refine G.callVv (ci := 4) [.int u32] [] dX2_checkTell_178 lkX2_77 okX4_begin rfl (fun v hv => C_X4_begin hv) (Nat.le_of_ble_eq_true rfl) rfl rfl (Nat.le_of_ble_eq_true rfl) h (fun M34 h => ?_)
                    refine G.aload_n dX2_checkTell_181 rfl rfl ?_
                    refine G.aload_n dX2_checkTell_182 rfl rfl ?_
                    refine G.callVv (ci := 2) [.ref a1] [] dX2_checkTell_183 lkX2_83 okX2_takeCondition rfl (fun v hv => C_X2_takeCondition hv) (Nat.le_of_ble_eq_true rfl) rfl rfl (Nat.le_of_ble_eq_true rfl) h (fun M36 h => ?_)
                    refine G.aload_n dX2_checkTell_186 rfl rfl ?_
                    refine G.callVv (ci := 4) [] [] dX2_checkTell_187 lkX2_86 okX4_end rfl (fun v hv => C_X4_end hv) (Nat.le_of_ble_eq_true rfl) rfl rfl (Nat.le_of_ble_eq_true rfl) h (fun M38 h => ?_)
                    refine G.sub (lv' := [(0, .ref a0)]) [0] rfl ?_
                    exact Jj29 _ h
                  · intro j39 Jj39 h
                    refine G.icmp_ne 177 dX2_checkTell_170 (by decide) h (fun c40 h => ?_) (fun c40 h => ?_)
                    · refine G.iconst (1 : Int32) dX2_checkTell_173 ki_1 ?_
                      refine G.goto 178 dX2_checkTell_174 (by decide) ?_
                      refine G.sub (lv' := [(0, .ref a0), (1, .ref a1)]) [0, 1] rfl ?_
                      exact Jj39 _ h
                    · refine G.iconst (0 : Int32) dX2_checkTell_177 ki_0 ?_
                      refine G.sub (lv' := [(0, .ref a0), (1, .ref a1)]) [0, 1] rfl ?_
                      exact Jj39 _ h
                · intro j41 Jj41 h
                  refine G.icmp_eq 160 dX2_checkTell_151 (by decide) h (fun c42 h => ?_) (fun c42 h => ?_)
                  · refine G.sub (lv' := [(0, .ref a0), (1, .ref a1), (2, .int v3)]) [0, 1, 2] rfl ?_
                    exact Jj41  h
                  · refine G.iload_n dX2_checkTell_154 rfl rfl ?_
                    refine G.bipush (10 : Int32) dX2_checkTell_155 kb_10 ?_
                    refine G.icmp_ne 190 dX2_checkTell_157 (by decide) h (fun c43 h => ?_) (fun c43 h => ?_)
                    · refine G.sub (lv' := [(0, .ref a0), (1, .ref a1), (2, .int v3)]) [0, 1, 2] rfl ?_
                      exact Jj41  h
                    · refine G.sub (lv' := [(0, .ref a0)]) [0] rfl ?_
                      exact Jj29 _ h
            · intro j44 Jj44 h
              refine G.icmp_ne 148 dX2_checkTell_141 (by decide) h (fun c45 h => ?_) (fun c45 h => ?_)
              · refine G.aload_n dX2_checkTell_144 rfl rfl ?_
                refine G.callVv (ci := 2) [] [] dX2_checkTell_145 lkX2_74 okX2_takeFurtherNames rfl (fun v hv => C_X2_takeFurtherNames hv) (Nat.le_of_ble_eq_true rfl) rfl rfl (Nat.le_of_ble_eq_true rfl) h (fun M47 h => ?_)
                refine G.sub (lv' := [(0, .ref a0), (1, .ref a1), (2, .int v3)]) [0, 1, 2] rfl ?_
                exact Jj44 _ h
              · refine G.sub (lv' := [(0, .ref a0), (1, .ref a1), (2, .int v3)]) [0, 1, 2] rfl ?_
                exact Jj44 _ h
          · intro j48 Jj48 h
            refine G.icmp_ne 138 dX2_checkTell_107 (by decide) h (fun c49 h => ?_) (fun c49 h => ?_)
            · refine G.aload_n dX2_checkTell_110 rfl rfl ?_
              refine G.getR dX2_checkTell_111 fkX2_41 fr2_0 h (fun v50 h => ?_)
              refine G.aload_n dX2_checkTell_114 rfl rfl ?_
              refine G.getI dX2_checkTell_115 fkX2_22 fr2_4 h (fun v51 h => ?_)
              refine G.callVi (ci := 9) [.int v51] [] dX2_checkTell_118 lkX2_51 okX9_kindAt rfl (fun v hv => C_X9_kindAt hv) (Nat.le_of_ble_eq_true rfl) rfl rfl (Nat.le_of_ble_eq_true rfl) h (fun v52 h => ?_)
              refine G.bipush (11 : Int32) dX2_checkTell_121 kb_11 ?_
              refine G.icmp_ne 138 dX2_checkTell_123 (by decide) h (fun c53 h => ?_) (fun c53 h => ?_)
              · refine G.aload_n dX2_checkTell_126 rfl rfl ?_
                refine G.bipush (11 : Int32) dX2_checkTell_127 kb_11 ?_
                refine G.callVv (ci := 2) [.int (11 : Int32)] [] dX2_checkTell_129 lkX2_64 okX2_take rfl (fun v hv => C_X2_take hv) (Nat.le_of_ble_eq_true rfl) rfl rfl (Nat.le_of_ble_eq_true rfl) h (fun M55 h => ?_)
                refine G.aload_n dX2_checkTell_132 rfl rfl ?_
                refine G.bipush (21 : Int32) dX2_checkTell_133 kb_21 ?_
                refine G.callVv (ci := 2) [.int (21 : Int32)] [] dX2_checkTell_135 lkX2_64 okX2_take rfl (fun v hv => C_X2_take hv) (Nat.le_of_ble_eq_true rfl) rfl rfl (Nat.le_of_ble_eq_true rfl) h (fun M57 h => ?_)
                refine G.sub (lv' := [(0, .ref a0), (1, .ref a1), (2, .int v3)]) [0, 1, 2] rfl ?_
                exact Jj48 _ h
              · refine G.sub (lv' := [(0, .ref a0), (1, .ref a1), (2, .int v3)]) [0, 1, 2] rfl ?_
                exact Jj48 _ h
            · refine G.sub (lv' := [(0, .ref a0), (1, .ref a1), (2, .int v3)]) [0, 1, 2] rfl ?_
              exact Jj48 _ h
        · intro s19 x19 h K19
          show G yX2_checkTell cX2_checkTell 4 none 5 84 [(0, .ref a0), (1, .ref a1), (2, .int v3), (3, .int s19.1)] [] s19.2 none o
          refine G.iload_n dX2_checkTell_84 rfl rfl ?_
          refine G.gets 3 (by decide) dX2_checkTell_85 gsX2_71 ?_
          refine G.iload_n dX2_checkTell_88 rfl rfl ?_
          refine G.iald dX2_checkTell_89 h (fun v20 h => ?_)
          refine G.icmp_ge 105 dX2_checkTell_90 (by decide) h (fun c21 h => ?_) (fun c21 h => ?_)
          · refine G.sub (lv' := [(0, .ref a0), (1, .ref a1), (2, .int v3)]) [0, 1, 2] rfl ?_
            have h := leafR' h K19
            exact h
          · refine G.aload_n dX2_checkTell_93 rfl rfl ?_
            refine G.bipush (21 : Int32) dX2_checkTell_94 kb_21 ?_
            refine G.callVv (ci := 2) [.int (21 : Int32)] [] dX2_checkTell_96 lkX2_64 okX2_take rfl (fun v hv => C_X2_take hv) (Nat.le_of_ble_eq_true rfl) rfl rfl (Nat.le_of_ble_eq_true rfl) h (fun M23 h => ?_)
            refine G.iinc s19.1 (w := (s19.1 + (1 : Int32))) (lv' := [(3, .int (s19.1 + (1 : Int32))), (0, .ref a0), (1, .ref a1), (2, .int v3)]) dX2_checkTell_99 rfl rfl (Nat.le_of_ble_eq_true rfl) rfl ?_
            refine G.goto 84 dX2_checkTell_102 (by decide) ?_
            refine G.sub (lv' := [(0, .ref a0), (1, .ref a1), (2, .int v3), (3, .int (s19.1 + (1 : Int32)))]) [1, 2, 3, 0] rfl ?_
            have h := leafL' h K19
            exact h
      · intro s14 x14 h K14
        show G yX2_checkTell cX2_checkTell 4 none 5 61 [(0, .ref a0), (1, .ref a1), (2, .int v3), (3, .int s14.1)] [] s14.2 none o
        refine G.iload_n dX2_checkTell_61 rfl rfl ?_
        refine G.gets 2 (by decide) dX2_checkTell_62 gsX2_68 ?_
        refine G.iload_n dX2_checkTell_65 rfl rfl ?_
        refine G.iald dX2_checkTell_66 h (fun v15 h => ?_)
        refine G.icmp_ge 82 dX2_checkTell_67 (by decide) h (fun c16 h => ?_) (fun c16 h => ?_)
        · refine G.sub (lv' := [(0, .ref a0), (1, .ref a1), (2, .int v3)]) [0, 1, 2] rfl ?_
          have h := leafR' h K14
          exact h
        · refine G.aload_n dX2_checkTell_70 rfl rfl ?_
          refine G.bipush (20 : Int32) dX2_checkTell_71 kb_20 ?_
          refine G.callVv (ci := 2) [.int (20 : Int32)] [] dX2_checkTell_73 lkX2_64 okX2_take rfl (fun v hv => C_X2_take hv) (Nat.le_of_ble_eq_true rfl) rfl rfl (Nat.le_of_ble_eq_true rfl) h (fun M18 h => ?_)
          refine G.iinc s14.1 (w := (s14.1 + (1 : Int32))) (lv' := [(3, .int (s14.1 + (1 : Int32))), (0, .ref a0), (1, .ref a1), (2, .int v3)]) dX2_checkTell_76 rfl rfl (Nat.le_of_ble_eq_true rfl) rfl ?_
          refine G.goto 61 dX2_checkTell_79 (by decide) ?_
          refine G.sub (lv' := [(0, .ref a0), (1, .ref a1), (2, .int v3), (3, .int (s14.1 + (1 : Int32)))]) [1, 2, 3, 0] rfl ?_
          have h := leafL' h K14
          exact h
    · refine G.aload_n dX2_checkTell_48 rfl rfl ?_
      refine G.iconst (2 : Int32) dX2_checkTell_49 ki_2 ?_
      refine G.putI dX2_checkTell_50 fkX2_25 nf2_5 ft2_5 h (fun M58 h => ?_)
      exact G.vretW dX2_checkTell_53 rfl h
  · refine G.aload_n dX2_checkTell_18 rfl rfl ?_
    refine G.iconst (1 : Int32) dX2_checkTell_19 ki_1 ?_
    refine G.putI dX2_checkTell_20 fkX2_25 nf2_5 ft2_5 h (fun M59 h => ?_)
    exact G.vretW dX2_checkTell_23 rfl h
-- OnlyUpward$Grammar.check(LOnlyUpward$Laws;)I
set_option maxRecDepth 100000 in
set_option maxHeartbeats 4000000 in
def F_X2_check (n : Nat) (M : AM) (a0 : Nat) (a1 : Nat) : Option (Int32 × AM) :=
  (gR 2 1 M a0).bind fun v1 => (F_J7_fill_53178 n M v1 (0 : Int32)).bind fun M3 => (pI 2 4 M3 a0 (0 : Int32)).bind fun M4 => (pI 2 5 M4 a0 (0 : Int32)).bind fun M5 => (iter (fun (s6 : Int32 × AM) => if (400 : Int32) < s6.1 then some (.inr s6.2) else (gI 2 5 s6.2 a0).bind fun v8 => if v8 = 0 then (gR 2 0 s6.2 a0).bind fun v10 => (gI 2 4 s6.2 a0).bind fun v11 => (rcv 9 s6.2 v10 (F_X9_kindAt n s6.2 v10 v11)).bind fun v12 => if v12 = (35 : Int32) then some (.inr s6.2) else (rcv 2 s6.2 a0 (F_X2_checkTell n s6.2 a0 a1)).bind fun M15 => some (.inl ((s6.1 + (1 : Int32)), M15)) else some (.inr s6.2)) n ((0 : Int32), M5)).bind fun (e6 : AM) => (gI 2 5 e6 a0).bind fun v16 => some (v16, e6)
set_option maxRecDepth 100000 in
set_option maxHeartbeats 4000000 in
theorem C_X2_check {n : Nat} {M : AM} {a0 : Nat} {a1 : Nat} {o : (Int32 × AM)} (h : F_X2_check n M a0 a1 = some o) : Cn yX2_check cX2_check 3 (some .int) 6 [.ref a0, .ref a1] M (some (.int o.1)) o.2 := by
  unfold F_X2_check at h
  refine Cn.of rfl (Nat.le_of_ble_eq_true rfl) ?_
  show G yX2_check cX2_check 3 (some .int) 6 0 [(0, .ref a0), (1, .ref a1)] [] M (some (.int o.1)) o.2
  refine G.aload_n dX2_check_0 rfl rfl ?_
  refine G.getR dX2_check_1 fkX2_9 fr2_1 h (fun v1 h => ?_)
  refine G.iconst (0 : Int32) dX2_check_4 ki_0 ?_
  refine G.callSv [.ref v1, .int (0 : Int32)] [] dX2_check_5 lkX2_45 okJ7_fill_53178 (fun v hv => C_J7_fill_53178 hv) (Nat.le_of_ble_eq_true rfl) rfl rfl (Nat.le_of_ble_eq_true rfl) h (fun M3 h => ?_)
  refine G.aload_n dX2_check_8 rfl rfl ?_
  refine G.iconst (0 : Int32) dX2_check_9 ki_0 ?_
  refine G.putI dX2_check_10 fkX2_22 nf2_4 ft2_4 h (fun M4 h => ?_)
  refine G.aload_n dX2_check_13 rfl rfl ?_
  refine G.iconst (0 : Int32) dX2_check_14 ki_0 ?_
  refine G.putI dX2_check_15 fkX2_25 nf2_5 ft2_5 h (fun M5 h => ?_)
  refine G.iconst (0 : Int32) dX2_check_18 ki_0 ?_
  refine G.istore_n (lv' := [(2, .int (0 : Int32)), (0, .ref a0), (1, .ref a1)]) dX2_check_19 rfl (Nat.le_of_ble_eq_true rfl) rfl ?_
  refine G.sub (lv' := [(0, .ref a0), (1, .ref a1), (2, .int (0 : Int32))]) [1, 2, 0] rfl ?_
  refine loopE (fun (s6 : Int32 × AM) => G yX2_check cX2_check 3 (some .int) 6 20 [(0, .ref a0), (1, .ref a1), (2, .int s6.1)] [] s6.2 (some (.int o.1)) o.2) (fun (e6 : AM) => G yX2_check cX2_check 3 (some .int) 6 61 [(0, .ref a0)] [] e6 (some (.int o.1)) o.2) h ?_ ?_
  · intro e6 h
    show G yX2_check cX2_check 3 (some .int) 6 61 [(0, .ref a0)] [] e6 (some (.int o.1)) o.2
    refine G.aload_n dX2_check_61 rfl rfl ?_
    refine G.getI dX2_check_62 fkX2_25 fr2_5 h (fun v16 h => ?_)
    exact G.iretW dX2_check_65 rfl (rfl) h
  · intro s6 x6 h K6
    show G yX2_check cX2_check 3 (some .int) 6 20 [(0, .ref a0), (1, .ref a1), (2, .int s6.1)] [] s6.2 (some (.int o.1)) o.2
    refine G.iload_n dX2_check_20 rfl rfl ?_
    refine G.sipush (400 : Int32) dX2_check_21 ks_400 ?_
    refine G.icmp_gt 61 dX2_check_24 (by decide) h (fun c7 h => ?_) (fun c7 h => ?_)
    · refine G.sub (lv' := [(0, .ref a0)]) [0] rfl ?_
      have h := leafR' h K6
      exact h
    · refine G.aload_n dX2_check_27 rfl rfl ?_
      refine G.getI dX2_check_28 fkX2_25 fr2_5 h (fun v8 h => ?_)
      refine G.if_ne 61 dX2_check_31 (by decide) h (fun c9 h => ?_) (fun c9 h => ?_)
      · refine G.aload_n dX2_check_34 rfl rfl ?_
        refine G.getR dX2_check_35 fkX2_41 fr2_0 h (fun v10 h => ?_)
        refine G.aload_n dX2_check_38 rfl rfl ?_
        refine G.getI dX2_check_39 fkX2_22 fr2_4 h (fun v11 h => ?_)
        refine G.callVi (ci := 9) [.int v11] [] dX2_check_42 lkX2_51 okX9_kindAt rfl (fun v hv => C_X9_kindAt hv) (Nat.le_of_ble_eq_true rfl) rfl rfl (Nat.le_of_ble_eq_true rfl) h (fun v12 h => ?_)
        refine G.bipush (35 : Int32) dX2_check_45 kb_35 ?_
        refine G.icmp_eq 61 dX2_check_47 (by decide) h (fun c13 h => ?_) (fun c13 h => ?_)
        · refine G.sub (lv' := [(0, .ref a0)]) [0] rfl ?_
          have h := leafR' h K6
          exact h
        · refine G.aload_n dX2_check_50 rfl rfl ?_
          refine G.aload_n dX2_check_51 rfl rfl ?_
          refine G.callVv (ci := 2) [.ref a1] [] dX2_check_52 lkX2_57 okX2_checkTell rfl (fun v hv => C_X2_checkTell hv) (Nat.le_of_ble_eq_true rfl) rfl rfl (Nat.le_of_ble_eq_true rfl) h (fun M15 h => ?_)
          refine G.iinc s6.1 (w := (s6.1 + (1 : Int32))) (lv' := [(2, .int (s6.1 + (1 : Int32))), (0, .ref a0), (1, .ref a1)]) dX2_check_55 rfl rfl (Nat.le_of_ble_eq_true rfl) rfl ?_
          refine G.goto 20 dX2_check_58 (by decide) ?_
          refine G.sub (lv' := [(0, .ref a0), (1, .ref a1), (2, .int (s6.1 + (1 : Int32)))]) [1, 2, 0] rfl ?_
          have h := leafL' h K6
          exact h
      · refine G.sub (lv' := [(0, .ref a0)]) [0] rfl ?_
        have h := leafR' h K6
        exact h
-- OnlyUpward$Teller.find(I)I
set_option maxRecDepth 100000 in
set_option maxHeartbeats 4000000 in
def F_X8_find (n : Nat) (M : AM) (a0 : Nat) (a1 : Int32) : Option Int32 :=
  (gR 8 0 M a0).bind fun v1 => (rcv 9 M v1 (F_X9_valueAt n M v1 a1)).bind fun v2 => (iter (fun (s3 : Int32) => (gI 8 4 M a0).bind fun v4 => if v4 ≤ s3 then some (.inr (.inl ())) else (gR 8 1 M a0).bind fun v6 => (rdL M v6 s3).bind fun v7 => if (lg_cmp v7 v2) = 0 then some (.inr (.inr s3)) else some (.inl (s3 + (1 : Int32)))) n (0 : Int32)).bind fun (z3 : (Unit) ⊕ Int32) => Sum.elim (fun (e3 : Unit) => some (-1 : Int32)) (fun (v : Int32) => some v) z3
set_option maxRecDepth 100000 in
set_option maxHeartbeats 4000000 in
theorem C_X8_find {n : Nat} {M : AM} {a0 : Nat} {a1 : Int32} {o : Int32} (h : F_X8_find n M a0 a1 = some o) : Cn yX8_find cX8_find 5 (some .int) 1 [.ref a0, .int a1] M (some (.int o)) M := by
  unfold F_X8_find at h
  refine Cn.of rfl (Nat.le_of_ble_eq_true rfl) ?_
  show G yX8_find cX8_find 5 (some .int) 1 0 [(0, .ref a0), (1, .int a1)] [] M (some (.int o)) M
  refine G.aload_n dX8_find_0 rfl rfl ?_
  refine G.getR dX8_find_1 fkX8_32 fr8_0 h (fun v1 h => ?_)
  refine G.iload_n dX8_find_4 rfl rfl ?_
  refine G.callVl (ci := 9) [.int a1] [] dX8_find_5 lkX8_114 okX9_valueAt rfl (fun v hv => C_X9_valueAt hv) (Nat.le_of_ble_eq_true rfl) rfl rfl (Nat.le_of_ble_eq_true rfl) h (fun v2 h => ?_)
  refine G.lstore_n (lv' := [(2, .long v2), (0, .ref a0), (1, .int a1)]) dX8_find_8 rfl (Nat.le_of_ble_eq_true rfl) rfl ?_
  refine G.iconst (0 : Int32) dX8_find_9 ki_0 ?_
  refine G.istore (lv' := [(4, .int (0 : Int32)), (2, .long v2), (0, .ref a0), (1, .int a1)]) dX8_find_10 (Nat.le_of_ble_eq_true rfl) rfl ?_
  refine G.sub (lv' := [(0, .ref a0), (2, .long v2), (4, .int (0 : Int32))]) [2, 1, 0] rfl ?_
  refine loopE (fun (s3 : Int32) => G yX8_find cX8_find 5 (some .int) 1 12 [(0, .ref a0), (2, .long v2), (4, .int s3)] [] M (some (.int o)) M) (fun (z3 : (Unit) ⊕ Int32) => Sum.elim (fun (e3 : Unit) => G yX8_find cX8_find 5 (some .int) 1 42 [] [] M (some (.int o)) M) (fun (v : Int32) => some v = some o) z3) h ?_ ?_
  · intro z3 h
    rcases z3 with e3 | v
    · have h := sum_inl h
      show G yX8_find cX8_find 5 (some .int) 1 42 [] [] M (some (.int o)) M
      refine G.iconst (-1 : Int32) dX8_find_42 ki_m1 ?_
      exact G.iret dX8_find_43 rfl (rfl) h
    · have h := sum_inr h
      exact h
  · intro s3 x3 h K3
    show G yX8_find cX8_find 5 (some .int) 1 12 [(0, .ref a0), (2, .long v2), (4, .int s3)] [] M (some (.int o)) M
    refine G.iload dX8_find_12 rfl ?_
    refine G.aload_n dX8_find_14 rfl rfl ?_
    refine G.getI dX8_find_15 fkX8_22 fr8_4 h (fun v4 h => ?_)
    refine G.icmp_ge 42 dX8_find_18 (by decide) h (fun c5 h => ?_) (fun c5 h => ?_)
    · refine G.sub (lv' := []) [] rfl ?_
      have h := leafR' h K3
      exact h
    · refine G.aload_n dX8_find_21 rfl rfl ?_
      refine G.getR dX8_find_22 fkX8_9 fr8_1 h (fun v6 h => ?_)
      refine G.iload dX8_find_25 rfl ?_
      refine G.lald dX8_find_27 h (fun v7 h => ?_)
      refine G.lload_n dX8_find_28 rfl rfl ?_
      refine G.lcmp dX8_find_29 ?_
      refine G.if_ne 36 dX8_find_30 (by decide) h (fun c8 h => ?_) (fun c8 h => ?_)
      · refine G.iload dX8_find_33 rfl ?_
        have h := leafR' h K3
        exact G.iret dX8_find_35 rfl (rfl) h
      · refine G.iinc s3 (w := (s3 + (1 : Int32))) (lv' := [(4, .int (s3 + (1 : Int32))), (0, .ref a0), (2, .long v2)]) dX8_find_36 rfl rfl (Nat.le_of_ble_eq_true rfl) rfl ?_
        refine G.goto 12 dX8_find_39 (by decide) ?_
        refine G.sub (lv' := [(0, .ref a0), (2, .long v2), (4, .int (s3 + (1 : Int32)))]) [1, 2, 0] rfl ?_
        have h := leafL' h K3
        exact h
-- OnlyUpward$Teller.refuse(II)V
set_option maxRecDepth 100000 in
set_option maxHeartbeats 4000000 in
def F_X8_refuse (n : Nat) (M : AM) (a0 : Nat) (a1 : Int32) (a2 : Int32) : Option AM :=
  (gI 8 5 M a0).bind fun v1 => if v1 = 0 then (pI 8 5 M a0 a1).bind fun M3 => (pI 8 6 M3 a0 a2).bind fun M4 => some M4 else some M
set_option maxRecDepth 100000 in
set_option maxHeartbeats 4000000 in
theorem C_X8_refuse {n : Nat} {M : AM} {a0 : Nat} {a1 : Int32} {a2 : Int32} {o : AM} (h : F_X8_refuse n M a0 a1 a2 = some o) : Cn yX8_refuse cX8_refuse 3 none 0 [.ref a0, .int a1, .int a2] M none o := by
  unfold F_X8_refuse at h
  refine Cn.of rfl (Nat.le_of_ble_eq_true rfl) ?_
  show G yX8_refuse cX8_refuse 3 none 0 0 [(0, .ref a0), (1, .int a1), (2, .int a2)] [] M none o
  refine G.aload_n dX8_refuse_0 rfl rfl ?_
  refine G.getI dX8_refuse_1 fkX8_26 fr8_5 h (fun v1 h => ?_)
  refine G.if_ne 17 dX8_refuse_4 (by decide) h (fun c2 h => ?_) (fun c2 h => ?_)
  · refine G.aload_n dX8_refuse_7 rfl rfl ?_
    refine G.iload_n dX8_refuse_8 rfl rfl ?_
    refine G.putI dX8_refuse_9 fkX8_26 nf8_5 ft8_5 h (fun M3 h => ?_)
    refine G.aload_n dX8_refuse_12 rfl rfl ?_
    refine G.iload_n dX8_refuse_13 rfl rfl ?_
    refine G.putI dX8_refuse_14 fkX8_29 nf8_6 ft8_6 h (fun M4 h => ?_)
    exact G.vretW dX8_refuse_17 rfl h
  · exact G.vretW dX8_refuse_17 rfl h
-- OnlyUpward$Teller.newName(LOnlyUpward$World;II)V
set_option maxRecDepth 100000 in
set_option maxHeartbeats 4000000 in
def F_X8_newName (n : Nat) (M : AM) (a0 : Nat) (a1 : Nat) (a2 : Int32) (a3 : Int32) : Option AM :=
  (rcv 8 M a0 (F_X8_find n M a0 a3)).bind fun v1 => if v1 = (-1 : Int32) then (gI 8 4 M a0).bind fun v3 => if (32 : Int32) ≤ v3 then some M else (gR 8 1 M a0).bind fun v5 => (gI 8 4 M a0).bind fun v6 => (gR 8 0 M a0).bind fun v7 => (rcv 9 M v7 (F_X9_valueAt n M v7 a3)).bind fun v8 => (wrL M v5 v6 v8).bind fun M9 => (gR 8 2 M9 a0).bind fun v10 => (gI 8 4 M9 a0).bind fun v11 => (wrI M9 v10 v11 a2).bind fun M12 => (gR 8 3 M12 a0).bind fun v13 => (gI 8 4 M12 a0).bind fun v14 => (gR 10 0 M12 a1).bind fun v15 => (rdI M12 v15 a2).bind fun v16 => (wrI M12 v13 v14 v16).bind fun M17 => (gI 8 4 M17 a0).bind fun v18 => (pI 8 4 M17 a0 (v18 + (1 : Int32))).bind fun M19 => some M19 else (rcv 8 M a0 (F_X8_refuse n M a0 (3 : Int32) a3)).bind fun M21 => some M21
set_option maxRecDepth 100000 in
set_option maxHeartbeats 4000000 in
theorem C_X8_newName {n : Nat} {M : AM} {a0 : Nat} {a1 : Nat} {a2 : Int32} {a3 : Int32} {o : AM} (h : F_X8_newName n M a0 a1 a2 a3 = some o) : Cn yX8_newName cX8_newName 4 none 2 [.ref a0, .ref a1, .int a2, .int a3] M none o := by
  unfold F_X8_newName at h
  refine Cn.of rfl (Nat.le_of_ble_eq_true rfl) ?_
  show G yX8_newName cX8_newName 4 none 2 0 [(0, .ref a0), (1, .ref a1), (2, .int a2), (3, .int a3)] [] M none o
  refine G.aload_n dX8_newName_0 rfl rfl ?_
  refine G.iload_n dX8_newName_1 rfl rfl ?_
  refine G.callVi (ci := 8) [.int a3] [] dX8_newName_2 lkX8_118 okX8_find rfl (fun v hv => C_X8_find hv) (Nat.le_of_ble_eq_true rfl) rfl rfl (Nat.le_of_ble_eq_true rfl) h (fun v1 h => ?_)
  refine G.iconst (-1 : Int32) dX8_newName_5 ki_m1 ?_
  refine G.icmp_eq 18 dX8_newName_6 (by decide) h (fun c2 h => ?_) (fun c2 h => ?_)
  · refine G.aload_n dX8_newName_18 rfl rfl ?_
    refine G.getI dX8_newName_19 fkX8_22 fr8_4 h (fun v3 h => ?_)
    refine G.bipush (32 : Int32) dX8_newName_22 kb_32 ?_
    refine G.icmp_ge 79 dX8_newName_24 (by decide) h (fun c4 h => ?_) (fun c4 h => ?_)
    · exact G.vretW dX8_newName_79 rfl h
    · refine G.aload_n dX8_newName_27 rfl rfl ?_
      refine G.getR dX8_newName_28 fkX8_9 fr8_1 h (fun v5 h => ?_)
      refine G.aload_n dX8_newName_31 rfl rfl ?_
      refine G.getI dX8_newName_32 fkX8_22 fr8_4 h (fun v6 h => ?_)
      refine G.aload_n dX8_newName_35 rfl rfl ?_
      refine G.getR dX8_newName_36 fkX8_32 fr8_0 h (fun v7 h => ?_)
      refine G.iload_n dX8_newName_39 rfl rfl ?_
      refine G.callVl (ci := 9) [.int a3] [.int v6, .ref v5] dX8_newName_40 lkX8_114 okX9_valueAt rfl (fun v hv => C_X9_valueAt hv) (Nat.le_of_ble_eq_true rfl) rfl rfl (Nat.le_of_ble_eq_true rfl) h (fun v8 h => ?_)
      refine G.last dX8_newName_43 h (fun M9 h => ?_)
      refine G.aload_n dX8_newName_44 rfl rfl ?_
      refine G.getR dX8_newName_45 fkX8_15 fr8_2 h (fun v10 h => ?_)
      refine G.aload_n dX8_newName_48 rfl rfl ?_
      refine G.getI dX8_newName_49 fkX8_22 fr8_4 h (fun v11 h => ?_)
      refine G.iload_n dX8_newName_52 rfl rfl ?_
      refine G.iast dX8_newName_53 h (fun M12 h => ?_)
      refine G.aload_n dX8_newName_54 rfl rfl ?_
      refine G.getR dX8_newName_55 fkX8_19 fr8_3 h (fun v13 h => ?_)
      refine G.aload_n dX8_newName_58 rfl rfl ?_
      refine G.getI dX8_newName_59 fkX8_22 fr8_4 h (fun v14 h => ?_)
      refine G.aload_n dX8_newName_62 rfl rfl ?_
      refine G.getR dX8_newName_63 fkX8_81 fr10_0 h (fun v15 h => ?_)
      refine G.iload_n dX8_newName_66 rfl rfl ?_
      refine G.iald dX8_newName_67 h (fun v16 h => ?_)
      refine G.iast dX8_newName_68 h (fun M17 h => ?_)
      refine G.aload_n dX8_newName_69 rfl rfl ?_
      refine G.dup dX8_newName_70 rfl ?_
      refine G.getI dX8_newName_71 fkX8_22 fr8_4 h (fun v18 h => ?_)
      refine G.iconst (1 : Int32) dX8_newName_74 ki_1 ?_
      refine G.iadd dX8_newName_75 ?_
      refine G.putI dX8_newName_76 fkX8_22 nf8_4 ft8_4 h (fun M19 h => ?_)
      exact G.vretW dX8_newName_79 rfl h
  · refine G.aload_n dX8_newName_9 rfl rfl ?_
    refine G.iconst (3 : Int32) dX8_newName_10 ki_3 ?_
    refine G.iload_n dX8_newName_11 rfl rfl ?_
    refine G.callVv (ci := 8) [.int (3 : Int32), .int a3] [] dX8_newName_12 lkX8_93 okX8_refuse rfl (fun v hv => C_X8_refuse hv) (Nat.le_of_ble_eq_true rfl) rfl rfl (Nat.le_of_ble_eq_true rfl) h (fun M21 h => ?_)
    refine G.goto 79 dX8_newName_15 (by decide) ?_
    exact G.vretW dX8_newName_79 rfl h
