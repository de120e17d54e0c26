-- OnlyUpward$Plan.has(I)Z
set_option maxRecDepth 100000 in
set_option maxHeartbeats 4000000 in
def F_X5_has (n : Nat) (M : AM) (a0 : Nat) (a1 : Int32) : Option Int32 :=
  if a1 < 0 then some (0 : Int32) else (gI 5 1 M a0).bind fun v2 => if v2 ≤ a1 then some (0 : Int32) else some (1 : Int32)
set_option maxRecDepth 100000 in
set_option maxHeartbeats 4000000 in
theorem C_X5_has {n : Nat} {M : AM} {a0 : Nat} {a1 : Int32} {o : Int32} (h : F_X5_has n M a0 a1 = some o) : Cn yX5_has cX5_has 2 (some .boolean) 0 [.ref a0, .int a1] M (some (.int o)) M := by
  unfold F_X5_has at h
  refine Cn.of rfl (Nat.le_of_ble_eq_true rfl) ?_
  show G yX5_has cX5_has 2 (some .boolean) 0 0 [(0, .ref a0), (1, .int a1)] [] M (some (.int o)) M
  refine G.iload_n dX5_has_0 rfl rfl ?_
  refine G.if_lt 16 dX5_has_1 (by decide) h (fun c1 h => ?_) (fun c1 h => ?_)
  · refine G.iconst (0 : Int32) dX5_has_16 ki_0 ?_
    exact G.iret dX5_has_17 rfl (by decide) h
  · refine G.iload_n dX5_has_4 rfl rfl ?_
    refine G.aload_n dX5_has_5 rfl rfl ?_
    refine G.getI dX5_has_6 fkX5_15 fr5_1 h (fun v2 h => ?_)
    refine G.icmp_ge 16 dX5_has_9 (by decide) h (fun c3 h => ?_) (fun c3 h => ?_)
    · refine G.iconst (0 : Int32) dX5_has_16 ki_0 ?_
      exact G.iret dX5_has_17 rfl (by decide) h
    · refine G.iconst (1 : Int32) dX5_has_12 ki_1 ?_
      refine G.goto 17 dX5_has_13 (by decide) ?_
      exact G.iret dX5_has_17 rfl (by decide) h
-- OnlyUpward$Plan.remove(I)V
set_option maxRecDepth 100000 in
set_option maxHeartbeats 4000000 in
def F_X5_remove (n : Nat) (M : AM) (a0 : Nat) (a1 : Int32) : Option AM :=
  (rcv 5 M a0 (F_X5_has n M a0 a1)).bind fun v1 => if v1 = 0 then some M else (gR 5 0 M a0).bind fun v3 => (gR 5 0 M a0).bind fun v4 => (gI 5 1 M a0).bind fun v5 => (cpI M v3 ((a1 + (1 : Int32)) * (5 : Int32)) v4 (a1 * (5 : Int32)) ((v5 * (5 : Int32)) - ((a1 + (1 : Int32)) * (5 : Int32)))).bind fun M6 => (gI 5 1 M6 a0).bind fun v7 => (pI 5 1 M6 a0 (v7 - (1 : Int32))).bind fun M8 => some M8
set_option maxRecDepth 100000 in
set_option maxHeartbeats 4000000 in
theorem C_X5_remove {n : Nat} {M : AM} {a0 : Nat} {a1 : Int32} {o : AM} (h : F_X5_remove n M a0 a1 = some o) : Cn yX5_remove cX5_remove 3 none 1 [.ref a0, .int a1] M none o := by
  unfold F_X5_remove at h
  refine Cn.of rfl (Nat.le_of_ble_eq_true rfl) ?_
  show G yX5_remove cX5_remove 3 none 1 0 [(0, .ref a0), (1, .int a1)] [] M none o
  refine G.aload_n dX5_remove_0 rfl rfl ?_
  refine G.iload_n dX5_remove_1 rfl rfl ?_
  refine G.callVi (ci := 5) [.int a1] [] dX5_remove_2 lkX5_44 okX5_has rfl (fun v hv => C_X5_has hv) (Nat.le_of_ble_eq_true rfl) rfl rfl (Nat.le_of_ble_eq_true rfl) h (fun v1 h => ?_)
  refine G.if_eq 47 dX5_remove_5 (by decide) h (fun c2 h => ?_) (fun c2 h => ?_)
  · exact G.vretW dX5_remove_47 rfl h
  · refine G.iload_n dX5_remove_8 rfl rfl ?_
    refine G.iconst (1 : Int32) dX5_remove_9 ki_1 ?_
    refine G.iadd dX5_remove_10 ?_
    refine G.iconst (5 : Int32) dX5_remove_11 ki_5 ?_
    refine G.imul dX5_remove_12 ?_
    refine G.istore_n (lv' := [(2, .int ((a1 + (1 : Int32)) * (5 : Int32))), (0, .ref a0), (1, .int a1)]) dX5_remove_13 rfl (Nat.le_of_ble_eq_true rfl) rfl ?_
    refine G.aload_n dX5_remove_14 rfl rfl ?_
    refine G.getR dX5_remove_15 fkX5_11 fr5_0 h (fun v3 h => ?_)
    refine G.iload_n dX5_remove_18 rfl rfl ?_
    refine G.aload_n dX5_remove_19 rfl rfl ?_
    refine G.getR dX5_remove_20 fkX5_11 fr5_0 h (fun v4 h => ?_)
    refine G.iload_n dX5_remove_23 rfl rfl ?_
    refine G.iconst (5 : Int32) dX5_remove_24 ki_5 ?_
    refine G.imul dX5_remove_25 ?_
    refine G.aload_n dX5_remove_26 rfl rfl ?_
    refine G.getI dX5_remove_27 fkX5_15 fr5_1 h (fun v5 h => ?_)
    refine G.iconst (5 : Int32) dX5_remove_30 ki_5 ?_
    refine G.imul dX5_remove_31 ?_
    refine G.iload_n dX5_remove_32 rfl rfl ?_
    refine G.isub dX5_remove_33 ?_
    refine G.copy dX5_remove_34 laX5_34 ac_1 ac_2 ac_3 (Nat.le_of_ble_eq_true rfl) (Nat.le_of_ble_eq_true rfl) h (fun M6 h => ?_)
    refine G.aload_n dX5_remove_37 rfl rfl ?_
    refine G.dup dX5_remove_38 rfl ?_
    refine G.getI dX5_remove_39 fkX5_15 fr5_1 h (fun v7 h => ?_)
    refine G.iconst (1 : Int32) dX5_remove_42 ki_1 ?_
    refine G.isub dX5_remove_43 ?_
    refine G.putI dX5_remove_44 fkX5_15 nf5_1 ft5_1 h (fun M8 h => ?_)
    exact G.vretW dX5_remove_47 rfl h
-- OnlyUpward.drop(I)I
set_option maxRecDepth 100000 in
set_option maxHeartbeats 4000000 in
def F_X11_drop (n : Nat) (M : AM) (a0 : Nat) (a1 : Int32) : Option (Int32 × AM) :=
  (gR 11 8 M a0).bind fun v1 => (rcv 5 M v1 (F_X5_has n M v1 a1)).bind fun v2 => if v2 = 0 then some ((-1 : Int32), M) else (pZ 11 10 M a0 (0 : Int32)).bind fun M4 => (gR 11 8 M4 a0).bind fun v5 => (rcv 5 M4 v5 (F_X5_remove n M4 v5 a1)).bind fun M7 => (gR 11 8 M7 a0).bind fun v8 => (gI 5 1 M7 v8).bind fun v9 => some (v9, M7)
set_option maxRecDepth 100000 in
set_option maxHeartbeats 4000000 in
theorem C_X11_drop {n : Nat} {M : AM} {a0 : Nat} {a1 : Int32} {o : (Int32 × AM)} (h : F_X11_drop n M a0 a1 = some o) : Cn yX11_drop cX11_drop 2 (some .int) 2 [.ref a0, .int a1] M (some (.int o.1)) o.2 := by
  unfold F_X11_drop at h
  refine Cn.of rfl (Nat.le_of_ble_eq_true rfl) ?_
  show G yX11_drop cX11_drop 2 (some .int) 2 0 [(0, .ref a0), (1, .int a1)] [] M (some (.int o.1)) o.2
  refine G.aload_n dX11_drop_0 rfl rfl ?_
  refine G.getR dX11_drop_1 fkX11_56 fr11_8 h (fun v1 h => ?_)
  refine G.iload_n dX11_drop_4 rfl rfl ?_
  refine G.callVi (ci := 5) [.int a1] [] dX11_drop_5 lkX11_180 okX5_has rfl (fun v hv => C_X5_has hv) (Nat.le_of_ble_eq_true rfl) rfl rfl (Nat.le_of_ble_eq_true rfl) h (fun v2 h => ?_)
  refine G.if_ne 13 dX11_drop_8 (by decide) h (fun c3 h => ?_) (fun c3 h => ?_)
  · refine G.iconst (-1 : Int32) dX11_drop_11 ki_m1 ?_
    exact G.iretW dX11_drop_12 rfl (rfl) h
  · refine G.aload_n dX11_drop_13 rfl rfl ?_
    refine G.iconst (0 : Int32) dX11_drop_14 ki_0 ?_
    refine G.putZ dX11_drop_15 fkX11_67 nf11_10 ft11_10 h (fun M4 h => ?_)
    refine G.aload_n dX11_drop_18 rfl rfl ?_
    refine G.getR dX11_drop_19 fkX11_56 fr11_8 h (fun v5 h => ?_)
    refine G.iload_n dX11_drop_22 rfl rfl ?_
    refine G.callVv (ci := 5) [.int a1] [] dX11_drop_23 lkX11_183 okX5_remove rfl (fun v hv => C_X5_remove hv) (Nat.le_of_ble_eq_true rfl) rfl rfl (Nat.le_of_ble_eq_true rfl) h (fun M7 h => ?_)
    refine G.aload_n dX11_drop_26 rfl rfl ?_
    refine G.getR dX11_drop_27 fkX11_56 fr11_8 h (fun v8 h => ?_)
    refine G.getI dX11_drop_30 fkX11_186 fr5_1 h (fun v9 h => ?_)
    exact G.iretW dX11_drop_33 rfl (rfl) h
-- OnlyUpward$Course.nobodyDies()V
set_option maxRecDepth 100000 in
set_option maxHeartbeats 4000000 in
def F_X1_nobodyDies (n : Nat) (M : AM) (a0 : Nat) : Option AM :=
  (gR 1 3 M a0).bind fun v1 => (F_J7_fill_53178 n M v1 (99 : Int32)).bind fun M3 => some M3
set_option maxRecDepth 100000 in
set_option maxHeartbeats 4000000 in
theorem C_X1_nobodyDies {n : Nat} {M : AM} {a0 : Nat} {o : AM} (h : F_X1_nobodyDies n M a0 = some o) : Cn yX1_nobodyDies cX1_nobodyDies 1 none 1 [.ref a0] M none o := by
  unfold F_X1_nobodyDies at h
  refine Cn.of rfl (Nat.le_of_ble_eq_true rfl) ?_
  show G yX1_nobodyDies cX1_nobodyDies 1 none 1 0 [(0, .ref a0)] [] M none o
  refine G.aload_n dX1_nobodyDies_0 rfl rfl ?_
  refine G.getR dX1_nobodyDies_1 fkX1_25 fr1_3 h (fun v1 h => ?_)
  refine G.bipush (99 : Int32) dX1_nobodyDies_4 kb_99 ?_
  refine G.callSv [.ref v1, .int (99 : Int32)] [] dX1_nobodyDies_6 lkX1_35 okJ7_fill_53178 (fun v hv => C_J7_fill_53178 hv) (Nat.le_of_ble_eq_true rfl) rfl rfl (Nat.le_of_ble_eq_true rfl) h (fun M3 h => ?_)
  exact G.vretW dX1_nobodyDies_9 rfl h
-- OnlyUpward$Knowledge.begin(LOnlyUpward$World;)V
set_option maxRecDepth 100000 in
set_option maxHeartbeats 4000000 in
def F_X3_begin (n : Nat) (M : AM) (a0 : Nat) (a1 : Nat) : Option AM :=
  (iter (fun (s1 : Int32 × AM) => if (10 : Int32) ≤ s1.1 then some (.inr s1.2) else (iter (fun (s3 : Int32 × AM) => if (6 : Int32) ≤ s3.1 then some (.inr s3.2) else (gR 3 0 s3.2 a0).bind fun v5 => (gR 10 5 s3.2 a1).bind fun v6 => (rdI s3.2 v6 s1.1).bind fun v7 => (F_X11_hasBit n s3.2 v7 s3.1).bind fun v8 => jn (fun (u9 : Int32) => (wrI s3.2 v5 ((s1.1 * (6 : Int32)) + s3.1) u9).bind fun M10 => some (.inl ((s3.1 + (1 : Int32)), M10))) fun j11 => if v8 = 0 then j11 (99 : Int32) else j11 (0 : Int32)) n ((0 : Int32), s1.2)).bind fun (e3 : AM) => some (.inl ((s1.1 + (1 : Int32)), e3))) n ((0 : Int32), M)).bind fun (e1 : AM) => some e1
set_option maxRecDepth 100000 in
set_option maxHeartbeats 4000000 in
theorem C_X3_begin {n : Nat} {M : AM} {a0 : Nat} {a1 : Nat} {o : AM} (h : F_X3_begin n M a0 a1 = some o) : Cn yX3_begin cX3_begin 4 none 1 [.ref a0, .ref a1] M none o := by
  unfold F_X3_begin at h
  refine Cn.of rfl (Nat.le_of_ble_eq_true rfl) ?_
  show G yX3_begin cX3_begin 4 none 1 0 [(0, .ref a0), (1, .ref a1)] [] M none o
  refine G.iconst (0 : Int32) dX3_begin_0 ki_0 ?_
  refine G.istore_n (lv' := [(2, .int (0 : Int32)), (0, .ref a0), (1, .ref a1)]) dX3_begin_1 rfl (Nat.le_of_ble_eq_true rfl) rfl ?_
  refine G.sub (lv' := [(0, .ref a0), (1, .ref a1), (2, .int (0 : Int32))]) [1, 2, 0] rfl ?_
  refine loopE (fun (s1 : Int32 × AM) => G yX3_begin cX3_begin 4 none 1 2 [(0, .ref a0), (1, .ref a1), (2, .int s1.1)] [] s1.2 none o) (fun (e1 : AM) => G yX3_begin cX3_begin 4 none 1 58 [] [] e1 none o) h ?_ ?_
  · intro e1 h
    show G yX3_begin cX3_begin 4 none 1 58 [] [] e1 none o
    exact G.vretW dX3_begin_58 rfl h
  · intro s1 x1 h K1
    show G yX3_begin cX3_begin 4 none 1 2 [(0, .ref a0), (1, .ref a1), (2, .int s1.1)] [] s1.2 none o
    refine G.iload_n dX3_begin_2 rfl rfl ?_
    refine G.bipush (10 : Int32) dX3_begin_3 kb_10 ?_
    refine G.icmp_ge 58 dX3_begin_5 (by decide) h (fun c2 h => ?_) (fun c2 h => ?_)
    · refine G.sub (lv' := []) [] rfl ?_
      have h := leafR' h K1
      exact h
    · refine G.iconst (0 : Int32) dX3_begin_8 ki_0 ?_
      refine G.istore_n (lv' := [(3, .int (0 : Int32)), (0, .ref a0), (1, .ref a1), (2, .int s1.1)]) dX3_begin_9 rfl (Nat.le_of_ble_eq_true rfl) rfl ?_
      refine G.sub (lv' := [(0, .ref a0), (1, .ref a1), (2, .int s1.1), (3, .int (0 : Int32))]) [1, 2, 3, 0] rfl ?_
      refine loopE (fun (s3 : Int32 × AM) => G yX3_begin cX3_begin 4 none 1 10 [(0, .ref a0), (1, .ref a1), (2, .int s1.1), (3, .int s3.1)] [] s3.2 none o) (fun (e3 : AM) => G yX3_begin cX3_begin 4 none 1 52 [(0, .ref a0), (1, .ref a1), (2, .int s1.1)] [] e3 none o) h ?_ ?_
      · intro e3 h
        show G yX3_begin cX3_begin 4 none 1 52 [(0, .ref a0), (1, .ref a1), (2, .int s1.1)] [] e3 none o
        refine G.iinc s1.1 (w := (s1.1 + (1 : Int32))) (lv' := [(2, .int (s1.1 + (1 : Int32))), (0, .ref a0), (1, .ref a1)]) dX3_begin_52 rfl rfl (Nat.le_of_ble_eq_true rfl) rfl ?_
        refine G.goto 2 dX3_begin_55 (by decide) ?_
        refine G.sub (lv' := [(0, .ref a0), (1, .ref a1), (2, .int (s1.1 + (1 : Int32)))]) [1, 2, 0] rfl ?_
        have h := leafL' h K1
        exact h
      · intro s3 x3 h K3
        show G yX3_begin cX3_begin 4 none 1 10 [(0, .ref a0), (1, .ref a1), (2, .int s1.1), (3, .int s3.1)] [] s3.2 none o
        refine G.iload_n dX3_begin_10 rfl rfl ?_
        refine G.bipush (6 : Int32) dX3_begin_11 kb_6 ?_
        refine G.icmp_ge 52 dX3_begin_13 (by decide) h (fun c4 h => ?_) (fun c4 h => ?_)
        · refine G.sub (lv' := [(0, .ref a0), (1, .ref a1), (2, .int s1.1)]) [0, 1, 2] rfl ?_
          have h := leafR' h K3
          exact h
        · refine G.aload_n dX3_begin_16 rfl rfl ?_
          refine G.getR dX3_begin_17 fkX3_9 fr3_0 h (fun v5 h => ?_)
          refine G.iload_n dX3_begin_20 rfl rfl ?_
          refine G.bipush (6 : Int32) dX3_begin_21 kb_6 ?_
          refine G.imul dX3_begin_23 ?_
          refine G.iload_n dX3_begin_24 rfl rfl ?_
          refine G.iadd dX3_begin_25 ?_
          refine G.aload_n dX3_begin_26 rfl rfl ?_
          refine G.getR dX3_begin_27 fkX3_15 fr10_5 h (fun v6 h => ?_)
          refine G.iload_n dX3_begin_30 rfl rfl ?_
          refine G.iald dX3_begin_31 h (fun v7 h => ?_)
          refine G.iload_n dX3_begin_32 rfl rfl ?_
          refine G.callSi [.int v7, .int s3.1] [.int ((s1.1 * (6 : Int32)) + s3.1), .ref v5] dX3_begin_33 lkX3_20 okX11_hasBit (fun v hv => C_X11_hasBit hv) (Nat.le_of_ble_eq_true rfl) rfl rfl (Nat.le_of_ble_eq_true rfl) h (fun v8 h => ?_)
          refine jn_elim (fun j11 => ∀ (u9 : Int32), j11 u9 = some x3 → G yX3_begin cX3_begin 4 none 1 45 [(0, .ref a0), (1, .ref a1), (2, .int s1.1), (3, .int s3.1)] [.int u9, .int ((s1.1 * (6 : Int32)) + s3.1), .ref v5] s3.2 none o) h ?_ ?_
          · intro u9 h
            refine G.iast dX3_begin_45 h (fun M10 h => ?_)
            refine G.iinc s3.1 (w := (s3.1 + (1 : Int32))) (lv' := [(3, .int (s3.1 + (1 : Int32))), (0, .ref a0), (1, .ref a1), (2, .int s1.1)]) dX3_begin_46 rfl rfl (Nat.le_of_ble_eq_true rfl) rfl ?_
            refine G.goto 10 dX3_begin_49 (by decide) ?_
            refine G.sub (lv' := [(0, .ref a0), (1, .ref a1), (2, .int s1.1), (3, .int (s3.1 + (1 : Int32)))]) [1, 2, 3, 0] rfl ?_
            have h := leafL' h K3
            exact h
          · intro j11 Jj11 h
            refine G.if_eq 43 dX3_begin_36 (by decide) h (fun c12 h => ?_) (fun c12 h => ?_)
            · refine G.bipush (99 : Int32) dX3_begin_43 kb_99 ?_
              refine G.sub (lv' := [(0, .ref a0), (1, .ref a1), (2, .int s1.1), (3, .int s3.1)]) [0, 1, 2, 3] rfl ?_
              exact Jj11 _ h
            · refine G.iconst (0 : Int32) dX3_begin_39 ki_0 ?_
              refine G.goto 45 dX3_begin_40 (by decide) ?_
              refine G.sub (lv' := [(0, .ref a0), (1, .ref a1), (2, .int s1.1), (3, .int s3.1)]) [0, 1, 2, 3] rfl ?_
              exact Jj11 _ h
-- OnlyUpward$Course.aliveAt(ILOnlyUpward$World;)I
set_option maxRecDepth 100000 in
set_option maxHeartbeats 4000000 in
def F_X1_aliveAt (n : Nat) (M : AM) (a0 : Nat) (a1 : Int32) (a2 : Nat) : Option Int32 :=
  (iter (fun (s1 : Int32 × Int32) => (gR 10 0 M a2).bind fun v2 => (rdI M v2 (1 : Int32)).bind fun v3 => if v3 ≤ s1.2 then some (.inr s1.1) else (gR 1 3 M a0).bind fun v5 => (rdI M v5 s1.2).bind fun v6 => jn (fun (u7 : Int32) => some (.inl (u7, (s1.2 + (1 : Int32))))) fun j8 => if v6 ≤ a1 then j8 s1.1 else j8 (s1.1 ||| ((1 : Int32) <<< (s1.2 &&& 31)))) n ((0 : Int32), (0 : Int32))).bind fun (e1 : Int32) => some e1
set_option maxRecDepth 100000 in
set_option maxHeartbeats 4000000 in
theorem C_X1_aliveAt {n : Nat} {M : AM} {a0 : Nat} {a1 : Int32} {a2 : Nat} {o : Int32} (h : F_X1_aliveAt n M a0 a1 a2 = some o) : Cn yX1_aliveAt cX1_aliveAt 5 (some .int) 0 [.ref a0, .int a1, .ref a2] M (some (.int o)) M := by
  unfold F_X1_aliveAt at h
  refine Cn.of rfl (Nat.le_of_ble_eq_true rfl) ?_
  show G yX1_aliveAt cX1_aliveAt 5 (some .int) 0 0 [(0, .ref a0), (1, .int a1), (2, .ref a2)] [] M (some (.int o)) M
  refine G.iconst (0 : Int32) dX1_aliveAt_0 ki_0 ?_
  refine G.istore_n (lv' := [(3, .int (0 : Int32)), (0, .ref a0), (1, .int a1), (2, .ref a2)]) dX1_aliveAt_1 rfl (Nat.le_of_ble_eq_true rfl) rfl ?_
  refine G.iconst (0 : Int32) dX1_aliveAt_2 ki_0 ?_
  refine G.istore (lv' := [(4, .int (0 : Int32)), (3, .int (0 : Int32)), (0, .ref a0), (1, .int a1), (2, .ref a2)]) dX1_aliveAt_3 (Nat.le_of_ble_eq_true rfl) rfl ?_
  refine G.sub (lv' := [(0, .ref a0), (1, .int a1), (2, .ref a2), (3, .int (0 : Int32)), (4, .int (0 : Int32))]) [2, 3, 4, 1, 0] rfl ?_
  refine loopE (fun (s1 : Int32 × Int32) => G yX1_aliveAt cX1_aliveAt 5 (some .int) 0 5 [(0, .ref a0), (1, .int a1), (2, .ref a2), (3, .int s1.1), (4, .int s1.2)] [] M (some (.int o)) M) (fun (e1 : Int32) => G yX1_aliveAt cX1_aliveAt 5 (some .int) 0 40 [(3, .int e1)] [] M (some (.int o)) M) h ?_ ?_
  · intro e1 h
    show G yX1_aliveAt cX1_aliveAt 5 (some .int) 0 40 [(3, .int e1)] [] M (some (.int o)) M
    refine G.iload_n dX1_aliveAt_40 rfl rfl ?_
    exact G.iret dX1_aliveAt_41 rfl (rfl) h
  · intro s1 x1 h K1
    show G yX1_aliveAt cX1_aliveAt 5 (some .int) 0 5 [(0, .ref a0), (1, .int a1), (2, .ref a2), (3, .int s1.1), (4, .int s1.2)] [] M (some (.int o)) M
    refine G.iload dX1_aliveAt_5 rfl ?_
    refine G.aload_n dX1_aliveAt_7 rfl rfl ?_
    refine G.getR dX1_aliveAt_8 fkX1_48 fr10_0 h (fun v2 h => ?_)
    refine G.iconst (1 : Int32) dX1_aliveAt_11 ki_1 ?_
    refine G.iald dX1_aliveAt_12 h (fun v3 h => ?_)
    refine G.icmp_ge 40 dX1_aliveAt_13 (by decide) h (fun c4 h => ?_) (fun c4 h => ?_)
    · refine G.sub (lv' := [(3, .int s1.1)]) [3] rfl ?_
      have h := leafR' h K1
      exact h
    · refine G.aload_n dX1_aliveAt_16 rfl rfl ?_
      refine G.getR dX1_aliveAt_17 fkX1_25 fr1_3 h (fun v5 h => ?_)
      refine G.iload dX1_aliveAt_20 rfl ?_
      refine G.iald dX1_aliveAt_22 h (fun v6 h => ?_)
      refine G.iload_n dX1_aliveAt_23 rfl rfl ?_
      refine jn_elim (fun j8 => ∀ (u7 : Int32), j8 u7 = some x1 → G yX1_aliveAt cX1_aliveAt 5 (some .int) 0 34 [(0, .ref a0), (1, .int a1), (2, .ref a2), (3, .int u7), (4, .int s1.2)] [] M (some (.int o)) M) h ?_ ?_
      · intro u7 h
        refine G.iinc s1.2 (w := (s1.2 + (1 : Int32))) (lv' := [(4, .int (s1.2 + (1 : Int32))), (0, .ref a0), (1, .int a1), (2, .ref a2), (3, .int u7)]) dX1_aliveAt_34 rfl rfl (Nat.le_of_ble_eq_true rfl) rfl ?_
        refine G.goto 5 dX1_aliveAt_37 (by decide) ?_
        refine G.sub (lv' := [(0, .ref a0), (1, .int a1), (2, .ref a2), (3, .int u7), (4, .int (s1.2 + (1 : Int32)))]) [1, 2, 3, 4, 0] rfl ?_
        have h := leafL' h K1
        exact h
      · intro j8 Jj8 h
        refine G.icmp_le 34 dX1_aliveAt_24 (by decide) h (fun c9 h => ?_) (fun c9 h => ?_)
        · refine G.sub (lv' := [(0, .ref a0), (1, .int a1), (2, .ref a2), (3, .int s1.1), (4, .int s1.2)]) [0, 1, 2, 3, 4] rfl ?_
          exact Jj8 _ h
        · refine G.iload_n dX1_aliveAt_27 rfl rfl ?_
          refine G.iconst (1 : Int32) dX1_aliveAt_28 ki_1 ?_
          refine G.iload dX1_aliveAt_29 rfl ?_
          refine G.ishl dX1_aliveAt_31 ?_
          refine G.ior dX1_aliveAt_32 ?_
          refine G.istore_n (lv' := [(3, .int (s1.1 ||| ((1 : Int32) <<< (s1.2 &&& 31)))), (0, .ref a0), (1, .int a1), (2, .ref a2), (4, .int s1.2)]) dX1_aliveAt_33 rfl (Nat.le_of_ble_eq_true rfl) rfl ?_
          refine G.sub (lv' := [(0, .ref a0), (1, .int a1), (2, .ref a2), (3, .int (s1.1 ||| ((1 : Int32) <<< (s1.2 &&& 31)))), (4, .int s1.2)]) [1, 2, 3, 0, 4] rfl ?_
          exact Jj8 _ h
-- OnlyUpward$Plan.part(II)I
set_option maxRecDepth 100000 in
set_option maxHeartbeats 4000000 in
def F_X5_part (n : Nat) (M : AM) (a0 : Nat) (a1 : Int32) (a2 : Int32) : Option Int32 :=
  (gR 5 0 M a0).bind fun v1 => (rdI M v1 ((a1 * (5 : Int32)) + a2)).bind fun v2 => some v2
set_option maxRecDepth 100000 in
set_option maxHeartbeats 4000000 in
theorem C_X5_part {n : Nat} {M : AM} {a0 : Nat} {a1 : Int32} {a2 : Int32} {o : Int32} (h : F_X5_part n M a0 a1 a2 = some o) : Cn yX5_part cX5_part 3 (some .int) 0 [.ref a0, .int a1, .int a2] M (some (.int o)) M := by
  unfold F_X5_part at h
  refine Cn.of rfl (Nat.le_of_ble_eq_true rfl) ?_
  show G yX5_part cX5_part 3 (some .int) 0 0 [(0, .ref a0), (1, .int a1), (2, .int a2)] [] M (some (.int o)) M
  refine G.aload_n dX5_part_0 rfl rfl ?_
  refine G.getR dX5_part_1 fkX5_11 fr5_0 h (fun v1 h => ?_)
  refine G.iload_n dX5_part_4 rfl rfl ?_
  refine G.iconst (5 : Int32) dX5_part_5 ki_5 ?_
  refine G.imul dX5_part_6 ?_
  refine G.iload_n dX5_part_7 rfl rfl ?_
  refine G.iadd dX5_part_8 ?_
  refine G.iald dX5_part_9 h (fun v2 h => ?_)
  exact G.iret dX5_part_10 rfl (rfl) h
-- OnlyUpward$Plan.hour(I)I
set_option maxRecDepth 100000 in
set_option maxHeartbeats 4000000 in
def F_X5_hour (n : Nat) (M : AM) (a0 : Nat) (a1 : Int32) : Option Int32 :=
  (rcv 5 M a0 (F_X5_part n M a0 a1 (1 : Int32))).bind fun v1 => some v1
set_option maxRecDepth 100000 in
set_option maxHeartbeats 4000000 in
theorem C_X5_hour {n : Nat} {M : AM} {a0 : Nat} {a1 : Int32} {o : Int32} (h : F_X5_hour n M a0 a1 = some o) : Cn yX5_hour cX5_hour 2 (some .int) 1 [.ref a0, .int a1] M (some (.int o)) M := by
  unfold F_X5_hour at h
  refine Cn.of rfl (Nat.le_of_ble_eq_true rfl) ?_
  show G yX5_hour cX5_hour 2 (some .int) 1 0 [(0, .ref a0), (1, .int a1)] [] M (some (.int o)) M
  refine G.aload_n dX5_hour_0 rfl rfl ?_
  refine G.iload_n dX5_hour_1 rfl rfl ?_
  refine G.iconst (1 : Int32) dX5_hour_2 ki_1 ?_
  refine G.callVi (ci := 5) [.int a1, .int (1 : Int32)] [] dX5_hour_3 lkX5_40 okX5_part rfl (fun v hv => C_X5_part hv) (Nat.le_of_ble_eq_true rfl) rfl rfl (Nat.le_of_ble_eq_true rfl) h (fun v1 h => ?_)
  exact G.iret dX5_hour_6 rfl (rfl) h
-- OnlyUpward$Plan.person(I)I
set_option maxRecDepth 100000 in
set_option maxHeartbeats 4000000 in
def F_X5_person (n : Nat) (M : AM) (a0 : Nat) (a1 : Int32) : Option Int32 :=
  (rcv 5 M a0 (F_X5_part n M a0 a1 (2 : Int32))).bind fun v1 => some v1
set_option maxRecDepth 100000 in
set_option maxHeartbeats 4000000 in
theorem C_X5_person {n : Nat} {M : AM} {a0 : Nat} {a1 : Int32} {o : Int32} (h : F_X5_person n M a0 a1 = some o) : Cn yX5_person cX5_person 2 (some .int) 1 [.ref a0, .int a1] M (some (.int o)) M := by
  unfold F_X5_person at h
  refine Cn.of rfl (Nat.le_of_ble_eq_true rfl) ?_
  show G yX5_person cX5_person 2 (some .int) 1 0 [(0, .ref a0), (1, .int a1)] [] M (some (.int o)) M
  refine G.aload_n dX5_person_0 rfl rfl ?_
  refine G.iload_n dX5_person_1 rfl rfl ?_
  refine G.iconst (2 : Int32) dX5_person_2 ki_2 ?_
  refine G.callVi (ci := 5) [.int a1, .int (2 : Int32)] [] dX5_person_3 lkX5_40 okX5_part rfl (fun v hv => C_X5_part hv) (Nat.le_of_ble_eq_true rfl) rfl rfl (Nat.le_of_ble_eq_true rfl) h (fun v1 h => ?_)
  exact G.iret dX5_person_6 rfl (rfl) h
-- OnlyUpward$Plan.sort(I)I
set_option maxRecDepth 100000 in
set_option maxHeartbeats 4000000 in
def F_X5_sort (n : Nat) (M : AM) (a0 : Nat) (a1 : Int32) : Option Int32 :=
  (rcv 5 M a0 (F_X5_part n M a0 a1 (0 : Int32))).bind fun v1 => some v1
set_option maxRecDepth 100000 in
set_option maxHeartbeats 4000000 in
theorem C_X5_sort {n : Nat} {M : AM} {a0 : Nat} {a1 : Int32} {o : Int32} (h : F_X5_sort n M a0 a1 = some o) : Cn yX5_sort cX5_sort 2 (some .int) 1 [.ref a0, .int a1] M (some (.int o)) M := by
  unfold F_X5_sort at h
  refine Cn.of rfl (Nat.le_of_ble_eq_true rfl) ?_
  show G yX5_sort cX5_sort 2 (some .int) 1 0 [(0, .ref a0), (1, .int a1)] [] M (some (.int o)) M
  refine G.aload_n dX5_sort_0 rfl rfl ?_
  refine G.iload_n dX5_sort_1 rfl rfl ?_
  refine G.iconst (0 : Int32) dX5_sort_2 ki_0 ?_
  refine G.callVi (ci := 5) [.int a1, .int (0 : Int32)] [] dX5_sort_3 lkX5_40 okX5_part rfl (fun v hv => C_X5_part hv) (Nat.le_of_ble_eq_true rfl) rfl rfl (Nat.le_of_ble_eq_true rfl) h (fun v1 h => ?_)
  exact G.iret dX5_sort_6 rfl (rfl) h
-- OnlyUpward$Plan.isSecond(I)Z
set_option maxRecDepth 100000 in
set_option maxHeartbeats 4000000 in
def F_X5_isSecond (n : Nat) (M : AM) (a0 : Nat) (a1 : Int32) : Option Int32 :=
  (iter (fun (s1 : Int32) => if a1 ≤ s1 then some (.inr (.inl ())) else (rcv 5 M a0 (F_X5_hour n M a0 s1)).bind fun v3 => (rcv 5 M a0 (F_X5_hour n M a0 a1)).bind fun v4 => jn (some (.inl (s1 + (1 : Int32)))) fun j5 => if v3 = v4 then (rcv 5 M a0 (F_X5_person n M a0 s1)).bind fun v7 => (rcv 5 M a0 (F_X5_person n M a0 a1)).bind fun v8 => if v7 = v8 then some (.inr (.inr (1 : Int32))) else j5 else j5) n (0 : Int32)).bind fun (z1 : (Unit) ⊕ Int32) => Sum.elim (fun (e1 : Unit) => some (0 : Int32)) (fun (v : Int32) => some v) z1
set_option maxRecDepth 100000 in
set_option maxHeartbeats 4000000 in
theorem C_X5_isSecond {n : Nat} {M : AM} {a0 : Nat} {a1 : Int32} {o : Int32} (h : F_X5_isSecond n M a0 a1 = some o) : Cn yX5_isSecond cX5_isSecond 3 (some .boolean) 2 [.ref a0, .int a1] M (some (.int o)) M := by
  unfold F_X5_isSecond at h
  refine Cn.of rfl (Nat.le_of_ble_eq_true rfl) ?_
  show G yX5_isSecond cX5_isSecond 3 (some .boolean) 2 0 [(0, .ref a0), (1, .int a1)] [] M (some (.int o)) M
  refine G.iconst (0 : Int32) dX5_isSecond_0 ki_0 ?_
  refine G.istore_n (lv' := [(2, .int (0 : Int32)), (0, .ref a0), (1, .int a1)]) dX5_isSecond_1 rfl (Nat.le_of_ble_eq_true rfl) rfl ?_
  refine G.sub (lv' := [(0, .ref a0), (1, .int a1), (2, .int (0 : Int32))]) [1, 2, 0] rfl ?_
  refine loopE (fun (s1 : Int32) => G yX5_isSecond cX5_isSecond 3 (some .boolean) 2 2 [(0, .ref a0), (1, .int a1), (2, .int s1)] [] M (some (.int o)) M) (fun (z1 : (Unit) ⊕ Int32) => Sum.elim (fun (e1 : Unit) => G yX5_isSecond cX5_isSecond 3 (some .boolean) 2 41 [] [] M (some (.int o)) M) (fun (v : Int32) => some v = some o) z1) h ?_ ?_
  · intro z1 h
    rcases z1 with e1 | v
    · have h := sum_inl h
      show G yX5_isSecond cX5_isSecond 3 (some .boolean) 2 41 [] [] M (some (.int o)) M
      refine G.iconst (0 : Int32) dX5_isSecond_41 ki_0 ?_
      exact G.iret dX5_isSecond_42 rfl (by decide) h
    · have h := sum_inr h
      exact h
  · intro s1 x1 h K1
    show G yX5_isSecond cX5_isSecond 3 (some .boolean) 2 2 [(0, .ref a0), (1, .int a1), (2, .int s1)] [] M (some (.int o)) M
    refine G.iload_n dX5_isSecond_2 rfl rfl ?_
    refine G.iload_n dX5_isSecond_3 rfl rfl ?_
    refine G.icmp_ge 41 dX5_isSecond_4 (by decide) h (fun c2 h => ?_) (fun c2 h => ?_)
    · refine G.sub (lv' := []) [] rfl ?_
      have h := leafR' h K1
      exact h
    · refine G.aload_n dX5_isSecond_7 rfl rfl ?_
      refine G.iload_n dX5_isSecond_8 rfl rfl ?_
      refine G.callVi (ci := 5) [.int s1] [] dX5_isSecond_9 lkX5_48 okX5_hour rfl (fun v hv => C_X5_hour hv) (Nat.le_of_ble_eq_true rfl) rfl rfl (Nat.le_of_ble_eq_true rfl) h (fun v3 h => ?_)
      refine G.aload_n dX5_isSecond_12 rfl rfl ?_
      refine G.iload_n dX5_isSecond_13 rfl rfl ?_
      refine G.callVi (ci := 5) [.int a1] [.int v3] dX5_isSecond_14 lkX5_48 okX5_hour rfl (fun v hv => C_X5_hour hv) (Nat.le_of_ble_eq_true rfl) rfl rfl (Nat.le_of_ble_eq_true rfl) h (fun v4 h => ?_)
      refine jn_elim (fun j5 => j5 = some x1 → G yX5_isSecond cX5_isSecond 3 (some .boolean) 2 35 [(0, .ref a0), (1, .int a1), (2, .int s1)] [] M (some (.int o)) M) h ?_ ?_
      · intro h
        refine G.iinc s1 (w := (s1 + (1 : Int32))) (lv' := [(2, .int (s1 + (1 : Int32))), (0, .ref a0), (1, .int a1)]) dX5_isSecond_35 rfl rfl (Nat.le_of_ble_eq_true rfl) rfl ?_
        refine G.goto 2 dX5_isSecond_38 (by decide) ?_
        refine G.sub (lv' := [(0, .ref a0), (1, .int a1), (2, .int (s1 + (1 : Int32)))]) [1, 2, 0] rfl ?_
        have h := leafL' h K1
        exact h
      · intro j5 Jj5 h
        refine G.icmp_ne 35 dX5_isSecond_17 (by decide) h (fun c6 h => ?_) (fun c6 h => ?_)
        · refine G.aload_n dX5_isSecond_20 rfl rfl ?_
          refine G.iload_n dX5_isSecond_21 rfl rfl ?_
          refine G.callVi (ci := 5) [.int s1] [] dX5_isSecond_22 lkX5_52 okX5_person rfl (fun v hv => C_X5_person hv) (Nat.le_of_ble_eq_true rfl) rfl rfl (Nat.le_of_ble_eq_true rfl) h (fun v7 h => ?_)
          refine G.aload_n dX5_isSecond_25 rfl rfl ?_
          refine G.iload_n dX5_isSecond_26 rfl rfl ?_
          refine G.callVi (ci := 5) [.int a1] [.int v7] dX5_isSecond_27 lkX5_52 okX5_person rfl (fun v hv => C_X5_person hv) (Nat.le_of_ble_eq_true rfl) rfl rfl (Nat.le_of_ble_eq_true rfl) h (fun v8 h => ?_)
          refine G.icmp_ne 35 dX5_isSecond_30 (by decide) h (fun c9 h => ?_) (fun c9 h => ?_)
          · refine G.iconst (1 : Int32) dX5_isSecond_33 ki_1 ?_
            have h := leafR' h K1
            exact G.iret dX5_isSecond_34 rfl (by decide) h
          · refine G.sub (lv' := [(0, .ref a0), (1, .int a1), (2, .int s1)]) [0, 1, 2] rfl ?_
            exact Jj5  h
        · refine G.sub (lv' := [(0, .ref a0), (1, .int a1), (2, .int s1)]) [0, 1, 2] rfl ?_
          exact Jj5  h
-- OnlyUpward$Plan.other(I)I
set_option maxRecDepth 100000 in
set_option maxHeartbeats 4000000 in
def F_X5_other (n : Nat) (M : AM) (a0 : Nat) (a1 : Int32) : Option Int32 :=
  (rcv 5 M a0 (F_X5_part n M a0 a1 (3 : Int32))).bind fun v1 => some v1
set_option maxRecDepth 100000 in
set_option maxHeartbeats 4000000 in
theorem C_X5_other {n : Nat} {M : AM} {a0 : Nat} {a1 : Int32} {o : Int32} (h : F_X5_other n M a0 a1 = some o) : Cn yX5_other cX5_other 2 (some .int) 1 [.ref a0, .int a1] M (some (.int o)) M := by
  unfold F_X5_other at h
  refine Cn.of rfl (Nat.le_of_ble_eq_true rfl) ?_
  show G yX5_other cX5_other 2 (some .int) 1 0 [(0, .ref a0), (1, .int a1)] [] M (some (.int o)) M
  refine G.aload_n dX5_other_0 rfl rfl ?_
  refine G.iload_n dX5_other_1 rfl rfl ?_
  refine G.iconst (3 : Int32) dX5_other_2 ki_3 ?_
  refine G.callVi (ci := 5) [.int a1, .int (3 : Int32)] [] dX5_other_3 lkX5_40 okX5_part rfl (fun v hv => C_X5_part hv) (Nat.le_of_ble_eq_true rfl) rfl rfl (Nat.le_of_ble_eq_true rfl) h (fun v1 h => ?_)
  exact G.iret dX5_other_6 rfl (rfl) h
-- OnlyUpward$Plan.thing(I)I
set_option maxRecDepth 100000 in
set_option maxHeartbeats 4000000 in
def F_X5_thing (n : Nat) (M : AM) (a0 : Nat) (a1 : Int32) : Option Int32 :=
  (rcv 5 M a0 (F_X5_part n M a0 a1 (4 : Int32))).bind fun v1 => some v1
set_option maxRecDepth 100000 in
set_option maxHeartbeats 4000000 in
theorem C_X5_thing {n : Nat} {M : AM} {a0 : Nat} {a1 : Int32} {o : Int32} (h : F_X5_thing n M a0 a1 = some o) : Cn yX5_thing cX5_thing 2 (some .int) 1 [.ref a0, .int a1] M (some (.int o)) M := by
  unfold F_X5_thing at h
  refine Cn.of rfl (Nat.le_of_ble_eq_true rfl) ?_
  show G yX5_thing cX5_thing 2 (some .int) 1 0 [(0, .ref a0), (1, .int a1)] [] M (some (.int o)) M
  refine G.aload_n dX5_thing_0 rfl rfl ?_
  refine G.iload_n dX5_thing_1 rfl rfl ?_
  refine G.iconst (4 : Int32) dX5_thing_2 ki_4 ?_
  refine G.callVi (ci := 5) [.int a1, .int (4 : Int32)] [] dX5_thing_3 lkX5_40 okX5_part rfl (fun v hv => C_X5_part hv) (Nat.le_of_ble_eq_true rfl) rfl rfl (Nat.le_of_ble_eq_true rfl) h (fun v1 h => ?_)
  exact G.iret dX5_thing_6 rfl (rfl) h
-- OnlyUpward$Knowledge.firstHour(II)I
set_option maxRecDepth 100000 in
set_option maxHeartbeats 4000000 in
def F_X3_firstHour (n : Nat) (M : AM) (a0 : Nat) (a1 : Int32) (a2 : Int32) : Option Int32 :=
  (gR 3 0 M a0).bind fun v1 => (rdI M v1 ((a1 * (6 : Int32)) + a2)).bind fun v2 => some v2
set_option maxRecDepth 100000 in
set_option maxHeartbeats 4000000 in
theorem C_X3_firstHour {n : Nat} {M : AM} {a0 : Nat} {a1 : Int32} {a2 : Int32} {o : Int32} (h : F_X3_firstHour n M a0 a1 a2 = some o) : Cn yX3_firstHour cX3_firstHour 3 (some .int) 0 [.ref a0, .int a1, .int a2] M (some (.int o)) M := by
  unfold F_X3_firstHour at h
  refine Cn.of rfl (Nat.le_of_ble_eq_true rfl) ?_
  show G yX3_firstHour cX3_firstHour 3 (some .int) 0 0 [(0, .ref a0), (1, .int a1), (2, .int a2)] [] M (some (.int o)) M
  refine G.aload_n dX3_firstHour_0 rfl rfl ?_
  refine G.getR dX3_firstHour_1 fkX3_9 fr3_0 h (fun v1 h => ?_)
  refine G.iload_n dX3_firstHour_4 rfl rfl ?_
  refine G.bipush (6 : Int32) dX3_firstHour_5 kb_6 ?_
  refine G.imul dX3_firstHour_7 ?_
  refine G.iload_n dX3_firstHour_8 rfl rfl ?_
  refine G.iadd dX3_firstHour_9 ?_
  refine G.iald dX3_firstHour_10 h (fun v2 h => ?_)
  exact G.iret dX3_firstHour_11 rfl (rfl) h
-- OnlyUpward$Knowledge.has(III)Z
set_option maxRecDepth 100000 in
set_option maxHeartbeats 4000000 in
def F_X3_has (n : Nat) (M : AM) (a0 : Nat) (a1 : Int32) (a2 : Int32) (a3 : Int32) : Option Int32 :=
  (rcv 3 M a0 (F_X3_firstHour n M a0 a1 a2)).bind fun v1 => if a3 < v1 then some (0 : Int32) else some (1 : Int32)
set_option maxRecDepth 100000 in
set_option maxHeartbeats 4000000 in
theorem C_X3_has {n : Nat} {M : AM} {a0 : Nat} {a1 : Int32} {a2 : Int32} {a3 : Int32} {o : Int32} (h : F_X3_has n M a0 a1 a2 a3 = some o) : Cn yX3_has cX3_has 4 (some .boolean) 1 [.ref a0, .int a1, .int a2, .int a3] M (some (.int o)) M := by
  unfold F_X3_has at h
  refine Cn.of rfl (Nat.le_of_ble_eq_true rfl) ?_
  show G yX3_has cX3_has 4 (some .boolean) 1 0 [(0, .ref a0), (1, .int a1), (2, .int a2), (3, .int a3)] [] M (some (.int o)) M
  refine G.aload_n dX3_has_0 rfl rfl ?_
  refine G.iload_n dX3_has_1 rfl rfl ?_
  refine G.iload_n dX3_has_2 rfl rfl ?_
  refine G.callVi (ci := 3) [.int a1, .int a2] [] dX3_has_3 lkX3_24 okX3_firstHour rfl (fun v hv => C_X3_firstHour hv) (Nat.le_of_ble_eq_true rfl) rfl rfl (Nat.le_of_ble_eq_true rfl) h (fun v1 h => ?_)
  refine G.iload_n dX3_has_6 rfl rfl ?_
  refine G.icmp_gt 14 dX3_has_7 (by decide) h (fun c2 h => ?_) (fun c2 h => ?_)
  · refine G.iconst (0 : Int32) dX3_has_14 ki_0 ?_
    exact G.iret dX3_has_15 rfl (by decide) h
  · refine G.iconst (1 : Int32) dX3_has_10 ki_1 ?_
    refine G.goto 15 dX3_has_11 (by decide) ?_
    exact G.iret dX3_has_15 rfl (by decide) h
-- OnlyUpward$Course.whyNot(LOnlyUpward$World;LOnlyUpward$Plan;II)I
set_option maxRecDepth 100000 in
set_option maxHeartbeats 4000000 in
def F_X1_whyNot (n : Nat) (M : AM) (a0 : Nat) (a1 : Nat) (a2 : Nat) (a3 : Int32) (a4 : Int32) : Option (Int32 × AM) :=
  (rcv 5 M a2 (F_X5_person n M a2 a3)).bind fun v1 => (rcv 5 M a2 (F_X5_hour n M a2 a3)).bind fun v2 => (rcv 5 M a2 (F_X5_sort n M a2 a3)).bind fun v3 => (F_X11_hasBit n M a4 v1).bind fun v4 => if v4 = 0 then some ((5 : Int32), M) else (rcv 5 M a2 (F_X5_isSecond n M a2 a3)).bind fun v6 => if v6 = 0 then jn (fun (u8 : Int32) => (rcv 10 M a1 (F_X10_placeOf n M a1 v1 v2)).bind fun v9 => (rcv 10 M a1 (F_X10_standers n M a1 v9 v2)).bind fun v10 => if (v10 &&& a4) = 0 then some ((2 : Int32), M) else jn (jn (if u8 = 0 then some ((0 : Int32), M) else (rcv 5 M a2 (F_X5_other n M a2 a3)).bind fun v13 => jn (fun (u14 : Int32) => (rcv 10 M a1 (F_X10_allows n M a1 v1 v13 v2 u14 a4)).bind fun v15 => if v15.1 = 0 then some ((4 : Int32), v15.2) else some ((0 : Int32), v15.2)) fun j17 => if v3 = (3 : Int32) then j17 (1 : Int32) else j17 (0 : Int32)) fun j19 => if v3 = (3 : Int32) then j19 else (gR 1 0 M a0).bind fun v21 => (rcv 5 M a2 (F_X5_thing n M a2 a3)).bind fun v22 => (rcv 3 M v21 (F_X3_has n M v21 v1 v22 v2)).bind fun v23 => if v23 = 0 then some ((3 : Int32), M) else j19) fun j25 => if u8 = 0 then j25 else (rcv 5 M a2 (F_X5_other n M a2 a3)).bind fun v27 => (F_X11_hasBit n M (v10 &&& a4) v27).bind fun v28 => if v28 = 0 then some ((2 : Int32), M) else j25) fun j30 => jn (j30 (1 : Int32)) fun j31 => if v3 = 0 then j31 else if v3 = (3 : Int32) then j31 else j30 (0 : Int32) else some ((1 : Int32), M)
set_option maxRecDepth 100000 in
set_option maxHeartbeats 4000000 in
theorem C_X1_whyNot {n : Nat} {M : AM} {a0 : Nat} {a1 : Nat} {a2 : Nat} {a3 : Int32} {a4 : Int32} {o : (Int32 × AM)} (h : F_X1_whyNot n M a0 a1 a2 a3 a4 = some o) : Cn yX1_whyNot cX1_whyNot 10 (some .int) 4 [.ref a0, .ref a1, .ref a2, .int a3, .int a4] M (some (.int o.1)) o.2 := by
  unfold F_X1_whyNot at h
  refine Cn.of rfl (Nat.le_of_ble_eq_true rfl) ?_
  show G yX1_whyNot cX1_whyNot 10 (some .int) 4 0 [(0, .ref a0), (1, .ref a1), (2, .ref a2), (3, .int a3), (4, .int a4)] [] M (some (.int o.1)) o.2
  refine G.aload_n dX1_whyNot_0 rfl rfl ?_
  refine G.iload_n dX1_whyNot_1 rfl rfl ?_
  refine G.callVi (ci := 5) [.int a3] [] dX1_whyNot_2 lkX1_82 okX5_person rfl (fun v hv => C_X5_person hv) (Nat.le_of_ble_eq_true rfl) rfl rfl (Nat.le_of_ble_eq_true rfl) h (fun v1 h => ?_)
  refine G.istore (lv' := [(5, .int v1), (0, .ref a0), (1, .ref a1), (2, .ref a2), (3, .int a3), (4, .int a4)]) dX1_whyNot_5 (Nat.le_of_ble_eq_true rfl) rfl ?_
  refine G.aload_n dX1_whyNot_7 rfl rfl ?_
  refine G.iload_n dX1_whyNot_8 rfl rfl ?_
  refine G.callVi (ci := 5) [.int a3] [] dX1_whyNot_9 lkX1_66 okX5_hour rfl (fun v hv => C_X5_hour hv) (Nat.le_of_ble_eq_true rfl) rfl rfl (Nat.le_of_ble_eq_true rfl) h (fun v2 h => ?_)
  refine G.istore (lv' := [(6, .int v2), (5, .int v1), (0, .ref a0), (1, .ref a1), (2, .ref a2), (3, .int a3), (4, .int a4)]) dX1_whyNot_12 (Nat.le_of_ble_eq_true rfl) rfl ?_
  refine G.aload_n dX1_whyNot_14 rfl rfl ?_
  refine G.iload_n dX1_whyNot_15 rfl rfl ?_
  refine G.callVi (ci := 5) [.int a3] [] dX1_whyNot_16 lkX1_85 okX5_sort rfl (fun v hv => C_X5_sort hv) (Nat.le_of_ble_eq_true rfl) rfl rfl (Nat.le_of_ble_eq_true rfl) h (fun v3 h => ?_)
  refine G.istore (lv' := [(7, .int v3), (6, .int v2), (5, .int v1), (0, .ref a0), (1, .ref a1), (2, .ref a2), (3, .int a3), (4, .int a4)]) dX1_whyNot_19 (Nat.le_of_ble_eq_true rfl) rfl ?_
  refine G.iload dX1_whyNot_21 rfl ?_
  refine G.iload dX1_whyNot_23 rfl ?_
  refine G.callSi [.int a4, .int v1] [] dX1_whyNot_25 lkX1_88 okX11_hasBit (fun v hv => C_X11_hasBit hv) (Nat.le_of_ble_eq_true rfl) rfl rfl (Nat.le_of_ble_eq_true rfl) h (fun v4 h => ?_)
  refine G.if_ne 33 dX1_whyNot_28 (by decide) h (fun c5 h => ?_) (fun c5 h => ?_)
  · refine G.iconst (5 : Int32) dX1_whyNot_31 ki_5 ?_
    exact G.iretW dX1_whyNot_32 rfl (rfl) h
  · refine G.aload_n dX1_whyNot_33 rfl rfl ?_
    refine G.iload_n dX1_whyNot_34 rfl rfl ?_
    refine G.callVi (ci := 5) [.int a3] [] dX1_whyNot_35 lkX1_92 okX5_isSecond rfl (fun v hv => C_X5_isSecond hv) (Nat.le_of_ble_eq_true rfl) rfl rfl (Nat.le_of_ble_eq_true rfl) h (fun v6 h => ?_)
    refine G.if_eq 43 dX1_whyNot_38 (by decide) h (fun c7 h => ?_) (fun c7 h => ?_)
    · refine G.iload dX1_whyNot_43 rfl ?_
      refine jn_elim (fun j30 => ∀ (u8 : Int32), j30 u8 = some o → G yX1_whyNot cX1_whyNot 10 (some .int) 4 59 [(0, .ref a0), (1, .ref a1), (2, .ref a2), (3, .int a3), (4, .int a4), (5, .int v1), (6, .int v2), (7, .int v3)] [.int u8] M (some (.int o.1)) o.2) h ?_ ?_
      · intro u8 h
        refine G.istore (lv' := [(8, .int u8), (0, .ref a0), (1, .ref a1), (2, .ref a2), (3, .int a3), (4, .int a4), (5, .int v1), (6, .int v2), (7, .int v3)]) dX1_whyNot_59 (Nat.le_of_ble_eq_true rfl) rfl ?_
        refine G.aload_n dX1_whyNot_61 rfl rfl ?_
        refine G.aload_n dX1_whyNot_62 rfl rfl ?_
        refine G.iload dX1_whyNot_63 rfl ?_
        refine G.iload dX1_whyNot_65 rfl ?_
        refine G.callVi (ci := 10) [.int v1, .int v2] [.ref a1] dX1_whyNot_67 lkX1_96 okX10_placeOf rfl (fun v hv => C_X10_placeOf hv) (Nat.le_of_ble_eq_true rfl) rfl rfl (Nat.le_of_ble_eq_true rfl) h (fun v9 h => ?_)
        refine G.iload dX1_whyNot_70 rfl ?_
        refine G.callVi (ci := 10) [.int v9, .int v2] [] dX1_whyNot_72 lkX1_100 okX10_standers rfl (fun v hv => C_X10_standers hv) (Nat.le_of_ble_eq_true rfl) rfl rfl (Nat.le_of_ble_eq_true rfl) h (fun v10 h => ?_)
        refine G.iload dX1_whyNot_75 rfl ?_
        refine G.iand dX1_whyNot_77 ?_
        refine G.istore (lv' := [(9, .int (v10 &&& a4)), (8, .int u8), (0, .ref a0), (1, .ref a1), (2, .ref a2), (3, .int a3), (4, .int a4), (5, .int v1), (6, .int v2), (7, .int v3)]) dX1_whyNot_78 (Nat.le_of_ble_eq_true rfl) rfl ?_
        refine G.iload dX1_whyNot_80 rfl ?_
        refine G.if_eq 103 dX1_whyNot_82 (by decide) h (fun c11 h => ?_) (fun c11 h => ?_)
        · refine G.iconst (2 : Int32) dX1_whyNot_103 ki_2 ?_
          exact G.iretW dX1_whyNot_104 rfl (rfl) h
        · refine G.iload dX1_whyNot_85 rfl ?_
          refine jn_elim (fun j25 => j25 = some o → G yX1_whyNot cX1_whyNot 10 (some .int) 4 105 [(0, .ref a0), (1, .ref a1), (2, .ref a2), (3, .int a3), (4, .int a4), (5, .int v1), (6, .int v2), (7, .int v3), (8, .int u8)] [] M (some (.int o.1)) o.2) h ?_ ?_
          · intro h
            refine G.iload dX1_whyNot_105 rfl ?_
            refine G.iconst (3 : Int32) dX1_whyNot_107 ki_3 ?_
            refine jn_elim (fun j19 => j19 = some o → G yX1_whyNot cX1_whyNot 10 (some .int) 4 132 [(1, .ref a1), (2, .ref a2), (3, .int a3), (4, .int a4), (5, .int v1), (6, .int v2), (7, .int v3), (8, .int u8)] [] M (some (.int o.1)) o.2) h ?_ ?_
            · intro h
              refine G.iload dX1_whyNot_132 rfl ?_
              refine G.if_eq 168 dX1_whyNot_134 (by decide) h (fun c12 h => ?_) (fun c12 h => ?_)
              · refine G.iconst (0 : Int32) dX1_whyNot_168 ki_0 ?_
                exact G.iretW dX1_whyNot_169 rfl (rfl) h
              · refine G.aload_n dX1_whyNot_137 rfl rfl ?_
                refine G.iload dX1_whyNot_138 rfl ?_
                refine G.aload_n dX1_whyNot_140 rfl rfl ?_
                refine G.iload_n dX1_whyNot_141 rfl rfl ?_
                refine G.callVi (ci := 5) [.int a3] [.int v1, .ref a1] dX1_whyNot_142 lkX1_103 okX5_other rfl (fun v hv => C_X5_other hv) (Nat.le_of_ble_eq_true rfl) rfl rfl (Nat.le_of_ble_eq_true rfl) h (fun v13 h => ?_)
                refine G.iload dX1_whyNot_145 rfl ?_
                refine G.iload dX1_whyNot_147 rfl ?_
                refine G.iconst (3 : Int32) dX1_whyNot_149 ki_3 ?_
                refine jn_elim (fun j17 => ∀ (u14 : Int32), j17 u14 = some o → G yX1_whyNot cX1_whyNot 10 (some .int) 4 158 [(4, .int a4)] [.int u14, .int v2, .int v13, .int v1, .ref a1] M (some (.int o.1)) o.2) h ?_ ?_
                · intro u14 h
                  refine G.iload dX1_whyNot_158 rfl ?_
                  refine G.callVi (ci := 10) [.int v1, .int v13, .int v2, .int u14, .int a4] [] dX1_whyNot_160 lkX1_113 okX10_allows rfl (fun v hv => C_X10_allows hv) (Nat.le_of_ble_eq_true rfl) rfl rfl (Nat.le_of_ble_eq_true rfl) h (fun v15 h => ?_)
                  refine G.if_ne 168 dX1_whyNot_163 (by decide) h (fun c16 h => ?_) (fun c16 h => ?_)
                  · refine G.iconst (4 : Int32) dX1_whyNot_166 ki_4 ?_
                    exact G.iretW dX1_whyNot_167 rfl (rfl) h
                  · refine G.iconst (0 : Int32) dX1_whyNot_168 ki_0 ?_
                    exact G.iretW dX1_whyNot_169 rfl (rfl) h
                · intro j17 Jj17 h
                  refine G.icmp_ne 157 dX1_whyNot_150 (by decide) h (fun c18 h => ?_) (fun c18 h => ?_)
                  · refine G.iconst (1 : Int32) dX1_whyNot_153 ki_1 ?_
                    refine G.goto 158 dX1_whyNot_154 (by decide) ?_
                    refine G.sub (lv' := [(4, .int a4)]) [3] rfl ?_
                    exact Jj17 _ h
                  · refine G.iconst (0 : Int32) dX1_whyNot_157 ki_0 ?_
                    refine G.sub (lv' := [(4, .int a4)]) [3] rfl ?_
                    exact Jj17 _ h
            · intro j19 Jj19 h
              refine G.icmp_eq 132 dX1_whyNot_108 (by decide) h (fun c20 h => ?_) (fun c20 h => ?_)
              · refine G.sub (lv' := [(1, .ref a1), (2, .ref a2), (3, .int a3), (4, .int a4), (5, .int v1), (6, .int v2), (7, .int v3), (8, .int u8)]) [1, 2, 3, 4, 5, 6, 7, 8] rfl ?_
                exact Jj19  h
              · refine G.aload_n dX1_whyNot_111 rfl rfl ?_
                refine G.getR dX1_whyNot_112 fkX1_12 fr1_0 h (fun v21 h => ?_)
                refine G.iload dX1_whyNot_115 rfl ?_
                refine G.aload_n dX1_whyNot_117 rfl rfl ?_
                refine G.iload_n dX1_whyNot_118 rfl rfl ?_
                refine G.callVi (ci := 5) [.int a3] [.int v1, .ref v21] dX1_whyNot_119 lkX1_106 okX5_thing rfl (fun v hv => C_X5_thing hv) (Nat.le_of_ble_eq_true rfl) rfl rfl (Nat.le_of_ble_eq_true rfl) h (fun v22 h => ?_)
                refine G.iload dX1_whyNot_122 rfl ?_
                refine G.callVi (ci := 3) [.int v1, .int v22, .int v2] [] dX1_whyNot_124 lkX1_109 okX3_has rfl (fun v hv => C_X3_has hv) (Nat.le_of_ble_eq_true rfl) rfl rfl (Nat.le_of_ble_eq_true rfl) h (fun v23 h => ?_)
                refine G.if_ne 132 dX1_whyNot_127 (by decide) h (fun c24 h => ?_) (fun c24 h => ?_)
                · refine G.iconst (3 : Int32) dX1_whyNot_130 ki_3 ?_
                  exact G.iretW dX1_whyNot_131 rfl (rfl) h
                · refine G.sub (lv' := [(1, .ref a1), (2, .ref a2), (3, .int a3), (4, .int a4), (5, .int v1), (6, .int v2), (7, .int v3), (8, .int u8)]) [1, 2, 3, 4, 5, 6, 7, 8] rfl ?_
                  exact Jj19  h
          · intro j25 Jj25 h
            refine G.if_eq 105 dX1_whyNot_87 (by decide) h (fun c26 h => ?_) (fun c26 h => ?_)
            · refine G.sub (lv' := [(0, .ref a0), (1, .ref a1), (2, .ref a2), (3, .int a3), (4, .int a4), (5, .int v1), (6, .int v2), (7, .int v3), (8, .int u8)]) [2, 3, 4, 5, 6, 7, 8, 9, 1] rfl ?_
              exact Jj25  h
            · refine G.iload dX1_whyNot_90 rfl ?_
              refine G.aload_n dX1_whyNot_92 rfl rfl ?_
              refine G.iload_n dX1_whyNot_93 rfl rfl ?_
              refine G.callVi (ci := 5) [.int a3] [.int (v10 &&& a4)] dX1_whyNot_94 lkX1_103 okX5_other rfl (fun v hv => C_X5_other hv) (Nat.le_of_ble_eq_true rfl) rfl rfl (Nat.le_of_ble_eq_true rfl) h (fun v27 h => ?_)
              refine G.callSi [.int (v10 &&& a4), .int v27] [] dX1_whyNot_97 lkX1_88 okX11_hasBit (fun v hv => C_X11_hasBit hv) (Nat.le_of_ble_eq_true rfl) rfl rfl (Nat.le_of_ble_eq_true rfl) h (fun v28 h => ?_)
              refine G.if_ne 105 dX1_whyNot_100 (by decide) h (fun c29 h => ?_) (fun c29 h => ?_)
              · refine G.iconst (2 : Int32) dX1_whyNot_103 ki_2 ?_
                exact G.iretW dX1_whyNot_104 rfl (rfl) h
              · refine G.sub (lv' := [(0, .ref a0), (1, .ref a1), (2, .ref a2), (3, .int a3), (4, .int a4), (5, .int v1), (6, .int v2), (7, .int v3), (8, .int u8)]) [2, 3, 4, 5, 6, 7, 8, 9, 1] rfl ?_
                exact Jj25  h
      · intro j30 Jj30 h
        refine jn_elim (fun j31 => j31 = some o → G yX1_whyNot cX1_whyNot 10 (some .int) 4 54 [(0, .ref a0), (1, .ref a1), (2, .ref a2), (3, .int a3), (4, .int a4), (5, .int v1), (6, .int v2), (7, .int v3)] [] M (some (.int o.1)) o.2) h ?_ ?_
        · intro h
          refine G.iconst (1 : Int32) dX1_whyNot_54 ki_1 ?_
          refine G.goto 59 dX1_whyNot_55 (by decide) ?_
          refine G.sub (lv' := [(0, .ref a0), (1, .ref a1), (2, .ref a2), (3, .int a3), (4, .int a4), (5, .int v1), (6, .int v2), (7, .int v3)]) [0, 1, 2, 3, 4, 5, 6, 7] rfl ?_
          exact Jj30 _ h
        · intro j31 Jj31 h
          refine G.if_eq 54 dX1_whyNot_45 (by decide) h (fun c32 h => ?_) (fun c32 h => ?_)
          · refine G.sub (lv' := [(0, .ref a0), (1, .ref a1), (2, .ref a2), (3, .int a3), (4, .int a4), (5, .int v1), (6, .int v2), (7, .int v3)]) [3, 4, 5, 6, 7, 2, 1, 0] rfl ?_
            exact Jj31  h
          · refine G.iload dX1_whyNot_48 rfl ?_
            refine G.iconst (3 : Int32) dX1_whyNot_50 ki_3 ?_
            refine G.icmp_ne 58 dX1_whyNot_51 (by decide) h (fun c33 h => ?_) (fun c33 h => ?_)
            · refine G.sub (lv' := [(0, .ref a0), (1, .ref a1), (2, .ref a2), (3, .int a3), (4, .int a4), (5, .int v1), (6, .int v2), (7, .int v3)]) [3, 4, 5, 6, 7, 2, 1, 0] rfl ?_
              exact Jj31  h
            · refine G.iconst (0 : Int32) dX1_whyNot_58 ki_0 ?_
              refine G.sub (lv' := [(0, .ref a0), (1, .ref a1), (2, .ref a2), (3, .int a3), (4, .int a4), (5, .int v1), (6, .int v2), (7, .int v3)]) [3, 4, 5, 6, 7, 2, 1, 0] rfl ?_
              exact Jj30 _ h
    · refine G.iconst (1 : Int32) dX1_whyNot_41 ki_1 ?_
      exact G.iretW dX1_whyNot_42 rfl (rfl) h
-- OnlyUpward$Knowledge.learn(III)V
set_option maxRecDepth 100000 in
set_option maxHeartbeats 4000000 in
def F_X3_learn (n : Nat) (M : AM) (a0 : Nat) (a1 : Int32) (a2 : Int32) (a3 : Int32) : Option AM :=
  (iter (fun (s1 : Int32 × AM) => if (10 : Int32) ≤ s1.1 then some (.inr s1.2) else (F_X11_hasBit n s1.2 a1 s1.1).bind fun v3 => jn (fun (M4 : AM) => some (.inl ((s1.1 + (1 : Int32)), M4))) fun j5 => if v3 = 0 then j5 s1.2 else (gR 3 0 s1.2 a0).bind fun v7 => (rdI s1.2 v7 ((s1.1 * (6 : Int32)) + a2)).bind fun v8 => if v8 ≤ a3 then j5 s1.2 else (gR 3 0 s1.2 a0).bind fun v10 => (wrI s1.2 v10 ((s1.1 * (6 : Int32)) + a2) a3).bind fun M11 => j5 M11) n ((0 : Int32), M)).bind fun (e1 : AM) => some e1
set_option maxRecDepth 100000 in
set_option maxHeartbeats 4000000 in
theorem C_X3_learn {n : Nat} {M : AM} {a0 : Nat} {a1 : Int32} {a2 : Int32} {a3 : Int32} {o : AM} (h : F_X3_learn n M a0 a1 a2 a3 = some o) : Cn yX3_learn cX3_learn 6 none 1 [.ref a0, .int a1, .int a2, .int a3] M none o := by
  unfold F_X3_learn at h
  refine Cn.of rfl (Nat.le_of_ble_eq_true rfl) ?_
  show G yX3_learn cX3_learn 6 none 1 0 [(0, .ref a0), (1, .int a1), (2, .int a2), (3, .int a3)] [] M none o
  refine G.iconst (0 : Int32) dX3_learn_0 ki_0 ?_
  refine G.istore (lv' := [(4, .int (0 : Int32)), (0, .ref a0), (1, .int a1), (2, .int a2), (3, .int a3)]) dX3_learn_1 (Nat.le_of_ble_eq_true rfl) rfl ?_
  refine G.sub (lv' := [(0, .ref a0), (1, .int a1), (2, .int a2), (3, .int a3), (4, .int (0 : Int32))]) [1, 2, 3, 4, 0] rfl ?_
  refine loopE (fun (s1 : Int32 × AM) => G yX3_learn cX3_learn 6 none 1 3 [(0, .ref a0), (1, .int a1), (2, .int a2), (3, .int a3), (4, .int s1.1)] [] s1.2 none o) (fun (e1 : AM) => G yX3_learn cX3_learn 6 none 1 53 [] [] e1 none o) h ?_ ?_
  · intro e1 h
    show G yX3_learn cX3_learn 6 none 1 53 [] [] e1 none o
    exact G.vretW dX3_learn_53 rfl h
  · intro s1 x1 h K1
    show G yX3_learn cX3_learn 6 none 1 3 [(0, .ref a0), (1, .int a1), (2, .int a2), (3, .int a3), (4, .int s1.1)] [] s1.2 none o
    refine G.iload dX3_learn_3 rfl ?_
    refine G.bipush (10 : Int32) dX3_learn_5 kb_10 ?_
    refine G.icmp_ge 53 dX3_learn_7 (by decide) h (fun c2 h => ?_) (fun c2 h => ?_)
    · refine G.sub (lv' := []) [] rfl ?_
      have h := leafR' h K1
      exact h
    · refine G.iload dX3_learn_10 rfl ?_
      refine G.bipush (6 : Int32) dX3_learn_12 kb_6 ?_
      refine G.imul dX3_learn_14 ?_
      refine G.iload_n dX3_learn_15 rfl rfl ?_
      refine G.iadd dX3_learn_16 ?_
      refine G.istore (lv' := [(5, .int ((s1.1 * (6 : Int32)) + a2)), (0, .ref a0), (1, .int a1), (2, .int a2), (3, .int a3), (4, .int s1.1)]) dX3_learn_17 (Nat.le_of_ble_eq_true rfl) rfl ?_
      refine G.iload_n dX3_learn_19 rfl rfl ?_
      refine G.iload dX3_learn_20 rfl ?_
      refine G.callSi [.int a1, .int s1.1] [] dX3_learn_22 lkX3_20 okX11_hasBit (fun v hv => C_X11_hasBit hv) (Nat.le_of_ble_eq_true rfl) rfl rfl (Nat.le_of_ble_eq_true rfl) h (fun v3 h => ?_)
      refine jn_elim (fun j5 => ∀ (M4 : AM), j5 M4 = some x1 → G yX3_learn cX3_learn 6 none 1 47 [(0, .ref a0), (1, .int a1), (2, .int a2), (3, .int a3), (4, .int s1.1)] [] M4 none o) h ?_ ?_
      · intro M4 h
        refine G.iinc s1.1 (w := (s1.1 + (1 : Int32))) (lv' := [(4, .int (s1.1 + (1 : Int32))), (0, .ref a0), (1, .int a1), (2, .int a2), (3, .int a3)]) dX3_learn_47 rfl rfl (Nat.le_of_ble_eq_true rfl) rfl ?_
        refine G.goto 3 dX3_learn_50 (by decide) ?_
        refine G.sub (lv' := [(0, .ref a0), (1, .int a1), (2, .int a2), (3, .int a3), (4, .int (s1.1 + (1 : Int32)))]) [1, 2, 3, 4, 0] rfl ?_
        have h := leafL' h K1
        exact h
      · intro j5 Jj5 h
        refine G.if_eq 47 dX3_learn_25 (by decide) h (fun c6 h => ?_) (fun c6 h => ?_)
        · refine G.sub (lv' := [(0, .ref a0), (1, .int a1), (2, .int a2), (3, .int a3), (4, .int s1.1)]) [1, 2, 3, 4, 5] rfl ?_
          exact Jj5 _ h
        · refine G.aload_n dX3_learn_28 rfl rfl ?_
          refine G.getR dX3_learn_29 fkX3_9 fr3_0 h (fun v7 h => ?_)
          refine G.iload dX3_learn_32 rfl ?_
          refine G.iald dX3_learn_34 h (fun v8 h => ?_)
          refine G.iload_n dX3_learn_35 rfl rfl ?_
          refine G.icmp_le 47 dX3_learn_36 (by decide) h (fun c9 h => ?_) (fun c9 h => ?_)
          · refine G.sub (lv' := [(0, .ref a0), (1, .int a1), (2, .int a2), (3, .int a3), (4, .int s1.1)]) [1, 2, 3, 4, 5] rfl ?_
            exact Jj5 _ h
          · refine G.aload_n dX3_learn_39 rfl rfl ?_
            refine G.getR dX3_learn_40 fkX3_9 fr3_0 h (fun v10 h => ?_)
            refine G.iload dX3_learn_43 rfl ?_
            refine G.iload_n dX3_learn_45 rfl rfl ?_
            refine G.iast dX3_learn_46 h (fun M11 h => ?_)
            refine G.sub (lv' := [(0, .ref a0), (1, .int a1), (2, .int a2), (3, .int a3), (4, .int s1.1)]) [1, 2, 3, 4, 5] rfl ?_
            exact Jj5 _ h
-- OnlyUpward$Course.see(IIII)V
set_option maxRecDepth 100000 in
set_option maxHeartbeats 4000000 in
def F_X1_see (n : Nat) (M : AM) (a0 : Nat) (a1 : Int32) (a2 : Int32) (a3 : Int32) (a4 : Int32) : Option AM :=
  (iter (fun (s1 : Int32 × AM) => if (10 : Int32) ≤ s1.1 then some (.inr s1.2) else lets ((((s1.1 * (10 : Int32)) + a2) * (6 : Int32)) + a3) fun (w3 : Int32) => jn (fun (M4 : AM) => some (.inl ((s1.1 + (1 : Int32)), M4))) fun j5 => if s1.1 = a2 then j5 s1.2 else (F_X11_hasBit n s1.2 a1 s1.1).bind fun v7 => if v7 = 0 then j5 s1.2 else (gR 1 1 s1.2 a0).bind fun v9 => (rdI s1.2 v9 w3).bind fun v10 => if v10 ≤ a4 then j5 s1.2 else (gR 1 1 s1.2 a0).bind fun v12 => (wrI s1.2 v12 w3 a4).bind fun M13 => j5 M13) n ((0 : Int32), M)).bind fun (e1 : AM) => some e1
set_option maxRecDepth 100000 in
set_option maxHeartbeats 4000000 in
theorem C_X1_see {n : Nat} {M : AM} {a0 : Nat} {a1 : Int32} {a2 : Int32} {a3 : Int32} {a4 : Int32} {o : AM} (h : F_X1_see n M a0 a1 a2 a3 a4 = some o) : Cn yX1_see cX1_see 7 none 1 [.ref a0, .int a1, .int a2, .int a3, .int a4] M none o := by
  unfold F_X1_see at h
  refine Cn.of rfl (Nat.le_of_ble_eq_true rfl) ?_
  show G yX1_see cX1_see 7 none 1 0 [(0, .ref a0), (1, .int a1), (2, .int a2), (3, .int a3), (4, .int a4)] [] M none o
  refine G.iconst (0 : Int32) dX1_see_0 ki_0 ?_
  refine G.istore (lv' := [(5, .int (0 : Int32)), (0, .ref a0), (1, .int a1), (2, .int a2), (3, .int a3), (4, .int a4)]) dX1_see_1 (Nat.le_of_ble_eq_true rfl) rfl ?_
  refine G.sub (lv' := [(0, .ref a0), (1, .int a1), (2, .int a2), (3, .int a3), (4, .int a4), (5, .int (0 : Int32))]) [1, 2, 3, 4, 5, 0] rfl ?_
  refine loopE (fun (s1 : Int32 × AM) => G yX1_see cX1_see 7 none 1 3 [(0, .ref a0), (1, .int a1), (2, .int a2), (3, .int a3), (4, .int a4), (5, .int s1.1)] [] s1.2 none o) (fun (e1 : AM) => G yX1_see cX1_see 7 none 1 66 [] [] e1 none o) h ?_ ?_
  · intro e1 h
    show G yX1_see cX1_see 7 none 1 66 [] [] e1 none o
    exact G.vretW dX1_see_66 rfl h
  · intro s1 x1 h K1
    show G yX1_see cX1_see 7 none 1 3 [(0, .ref a0), (1, .int a1), (2, .int a2), (3, .int a3), (4, .int a4), (5, .int s1.1)] [] s1.2 none o
    refine G.iload dX1_see_3 rfl ?_
    refine G.bipush (10 : Int32) dX1_see_5 kb_10 ?_
    refine G.icmp_ge 66 dX1_see_7 (by decide) h (fun c2 h => ?_) (fun c2 h => ?_)
    · refine G.sub (lv' := []) [] rfl ?_
      have h := leafR' h K1
      exact h
    · refine G.iload dX1_see_10 rfl ?_
      refine G.bipush (10 : Int32) dX1_see_12 kb_10 ?_
      refine G.imul dX1_see_14 ?_
      refine G.iload_n dX1_see_15 rfl rfl ?_
      refine G.iadd dX1_see_16 ?_
      refine G.bipush (6 : Int32) dX1_see_17 kb_6 ?_
      refine G.imul dX1_see_19 ?_
      refine G.iload_n dX1_see_20 rfl rfl ?_
      refine G.iadd dX1_see_21 ?_
      refine lets_elim h (fun w3 ew3 h => ?_)
      rw [← ew3]
      refine G.istore (lv' := [(6, .int w3), (0, .ref a0), (1, .int a1), (2, .int a2), (3, .int a3), (4, .int a4), (5, .int s1.1)]) dX1_see_22 (Nat.le_of_ble_eq_true rfl) rfl ?_
      refine G.iload dX1_see_24 rfl ?_
      refine G.iload_n dX1_see_26 rfl rfl ?_
      refine jn_elim (fun j5 => ∀ (M4 : AM), j5 M4 = some x1 → G yX1_see cX1_see 7 none 1 60 [(0, .ref a0), (1, .int a1), (2, .int a2), (3, .int a3), (4, .int a4), (5, .int s1.1)] [] M4 none o) h ?_ ?_
      · intro M4 h
        refine G.iinc s1.1 (w := (s1.1 + (1 : Int32))) (lv' := [(5, .int (s1.1 + (1 : Int32))), (0, .ref a0), (1, .int a1), (2, .int a2), (3, .int a3), (4, .int a4)]) dX1_see_60 rfl rfl (Nat.le_of_ble_eq_true rfl) rfl ?_
        refine G.goto 3 dX1_see_63 (by decide) ?_
        refine G.sub (lv' := [(0, .ref a0), (1, .int a1), (2, .int a2), (3, .int a3), (4, .int a4), (5, .int (s1.1 + (1 : Int32)))]) [1, 2, 3, 4, 5, 0] rfl ?_
        have h := leafL' h K1
        exact h
      · intro j5 Jj5 h
        refine G.icmp_eq 60 dX1_see_27 (by decide) h (fun c6 h => ?_) (fun c6 h => ?_)
        · refine G.sub (lv' := [(0, .ref a0), (1, .int a1), (2, .int a2), (3, .int a3), (4, .int a4), (5, .int s1.1)]) [1, 2, 3, 4, 5, 6] rfl ?_
          exact Jj5 _ h
        · refine G.iload_n dX1_see_30 rfl rfl ?_
          refine G.iload dX1_see_31 rfl ?_
          refine G.callSi [.int a1, .int s1.1] [] dX1_see_33 lkX1_88 okX11_hasBit (fun v hv => C_X11_hasBit hv) (Nat.le_of_ble_eq_true rfl) rfl rfl (Nat.le_of_ble_eq_true rfl) h (fun v7 h => ?_)
          refine G.if_eq 60 dX1_see_36 (by decide) h (fun c8 h => ?_) (fun c8 h => ?_)
          · refine G.sub (lv' := [(0, .ref a0), (1, .int a1), (2, .int a2), (3, .int a3), (4, .int a4), (5, .int s1.1)]) [1, 2, 3, 4, 5, 6] rfl ?_
            exact Jj5 _ h
          · refine G.aload_n dX1_see_39 rfl rfl ?_
            refine G.getR dX1_see_40 fkX1_18 fr1_1 h (fun v9 h => ?_)
            refine G.iload dX1_see_43 rfl ?_
            refine G.iald dX1_see_45 h (fun v10 h => ?_)
            refine G.iload dX1_see_46 rfl ?_
            refine G.icmp_le 60 dX1_see_48 (by decide) h (fun c11 h => ?_) (fun c11 h => ?_)
            · refine G.sub (lv' := [(0, .ref a0), (1, .int a1), (2, .int a2), (3, .int a3), (4, .int a4), (5, .int s1.1)]) [1, 2, 3, 4, 5, 6] rfl ?_
              exact Jj5 _ h
            · refine G.aload_n dX1_see_51 rfl rfl ?_
              refine G.getR dX1_see_52 fkX1_18 fr1_1 h (fun v12 h => ?_)
              refine G.iload dX1_see_55 rfl ?_
              refine G.iload dX1_see_57 rfl ?_
              refine G.iast dX1_see_59 h (fun M13 h => ?_)
              refine G.sub (lv' := [(0, .ref a0), (1, .int a1), (2, .int a2), (3, .int a3), (4, .int a4), (5, .int s1.1)]) [1, 2, 3, 4, 5, 6] rfl ?_
              exact Jj5 _ h
-- OnlyUpward$Course.carryOut(LOnlyUpward$World;LOnlyUpward$Plan;II)V
set_option maxRecDepth 100000 in
set_option maxHeartbeats 4000000 in
def F_X1_carryOut (n : Nat) (M : AM) (a0 : Nat) (a1 : Nat) (a2 : Nat) (a3 : Int32) (a4 : Int32) : Option AM :=
  (rcv 5 M a2 (F_X5_person n M a2 a3)).bind fun v1 => (rcv 5 M a2 (F_X5_other n M a2 a3)).bind fun v2 => (rcv 5 M a2 (F_X5_thing n M a2 a3)).bind fun v3 => (rcv 5 M a2 (F_X5_hour n M a2 a3)).bind fun v4 => (rcv 10 M a1 (F_X10_placeOf n M a1 v1 v4)).bind fun v5 => (rcv 10 M a1 (F_X10_hearers n M a1 v5 v4)).bind fun v6 => (gI 1 5 M a0).bind fun v7 => (pI 1 5 M a0 (v7 + (1 : Int32))).bind fun M8 => (rcv 5 M8 a2 (F_X5_sort n M8 a2 a3)).bind fun v9 => if v9 = (0 : Int32) then (gR 1 0 M8 a0).bind fun v11 => (rcv 3 M8 v11 (F_X3_learn n M8 v11 (v6 &&& a4) v3 (v4 + (1 : Int32)))).bind fun M13 => (gI 1 4 M13 a0).bind fun v14 => (pI 1 4 M13 a0 (v14 + (1 : Int32))).bind fun M15 => some M15 else if v9 = (1 : Int32) then (rcv 10 M8 a1 (F_X10_placeOf n M8 a1 v1 v4)).bind fun v17 => (rcv 10 M8 a1 (F_X10_standers n M8 a1 v17 v4)).bind fun v18 => (gR 1 0 M8 a0).bind fun v19 => (rcv 3 M8 v19 (F_X3_learn n M8 v19 (v18 &&& a4) v3 (v4 + (1 : Int32)))).bind fun M21 => (gI 1 4 M21 a0).bind fun v22 => (gR 10 10 M21 a1).bind fun v23 => (rdI M21 v23 v2).bind fun v24 => (pI 1 4 M21 a0 (v22 + v24)).bind fun M25 => some M25 else if v9 = (2 : Int32) then (gI 1 4 M8 a0).bind fun v27 => (pI 1 4 M8 a0 (v27 + (5 : Int32))).bind fun M28 => some M28 else (gR 1 0 M8 a0).bind fun v29 => (rcv 3 M8 v29 (F_X3_has n M8 v29 v2 v3 v4)).bind fun v30 => jn (fun (M31 : AM) => (gR 1 0 M31 a0).bind fun v32 => (rcv 3 M31 v32 (F_X3_has n M31 v32 v1 v3 v4)).bind fun v33 => jn (fun (M34 : AM) => (gI 1 4 M34 a0).bind fun v35 => (pI 1 4 M34 a0 (v35 + (1 : Int32))).bind fun M36 => some M36) fun j37 => if v33 = 0 then (rcv 1 M31 a0 (F_X1_see n M31 a0 (v6 &&& a4) v1 v3 (v4 + (1 : Int32)))).bind fun M40 => j37 M40 else j37 M31) fun j41 => if v30 = 0 then j41 M8 else (rcv 10 M8 a1 (F_X10_allows n M8 a1 v2 v1 v4 (0 : Int32) a4)).bind fun v43 => if v43.1 = 0 then j41 v43.2 else (gR 1 0 v43.2 a0).bind fun v45 => (rcv 3 v43.2 v45 (F_X3_learn n v43.2 v45 (v6 &&& a4) v3 (v4 + (1 : Int32)))).bind fun M47 => j41 M47
set_option maxRecDepth 100000 in
set_option maxHeartbeats 4000000 in
theorem C_X1_carryOut {n : Nat} {M : AM} {a0 : Nat} {a1 : Nat} {a2 : Nat} {a3 : Int32} {a4 : Int32} {o : AM} (h : F_X1_carryOut n M a0 a1 a2 a3 a4 = some o) : Cn yX1_carryOut cX1_carryOut 11 none 4 [.ref a0, .ref a1, .ref a2, .int a3, .int a4] M none o := by
  unfold F_X1_carryOut at h
  refine Cn.of rfl (Nat.le_of_ble_eq_true rfl) ?_
  show G yX1_carryOut cX1_carryOut 11 none 4 0 [(0, .ref a0), (1, .ref a1), (2, .ref a2), (3, .int a3), (4, .int a4)] [] M none o
  refine G.aload_n dX1_carryOut_0 rfl rfl ?_
  refine G.iload_n dX1_carryOut_1 rfl rfl ?_
  refine G.callVi (ci := 5) [.int a3] [] dX1_carryOut_2 lkX1_82 okX5_person rfl (fun v hv => C_X5_person hv) (Nat.le_of_ble_eq_true rfl) rfl rfl (Nat.le_of_ble_eq_true rfl) h (fun v1 h => ?_)
  refine G.istore (lv' := [(5, .int v1), (0, .ref a0), (1, .ref a1), (2, .ref a2), (3, .int a3), (4, .int a4)]) dX1_carryOut_5 (Nat.le_of_ble_eq_true rfl) rfl ?_
  refine G.aload_n dX1_carryOut_7 rfl rfl ?_
  refine G.iload_n dX1_carryOut_8 rfl rfl ?_
  refine G.callVi (ci := 5) [.int a3] [] dX1_carryOut_9 lkX1_103 okX5_other rfl (fun v hv => C_X5_other hv) (Nat.le_of_ble_eq_true rfl) rfl rfl (Nat.le_of_ble_eq_true rfl) h (fun v2 h => ?_)
  refine G.istore (lv' := [(6, .int v2), (5, .int v1), (0, .ref a0), (1, .ref a1), (2, .ref a2), (3, .int a3), (4, .int a4)]) dX1_carryOut_12 (Nat.le_of_ble_eq_true rfl) rfl ?_
  refine G.aload_n dX1_carryOut_14 rfl rfl ?_
  refine G.iload_n dX1_carryOut_15 rfl rfl ?_
  refine G.callVi (ci := 5) [.int a3] [] dX1_carryOut_16 lkX1_106 okX5_thing rfl (fun v hv => C_X5_thing hv) (Nat.le_of_ble_eq_true rfl) rfl rfl (Nat.le_of_ble_eq_true rfl) h (fun v3 h => ?_)
  refine G.istore (lv' := [(7, .int v3), (6, .int v2), (5, .int v1), (0, .ref a0), (1, .ref a1), (2, .ref a2), (3, .int a3), (4, .int a4)]) dX1_carryOut_19 (Nat.le_of_ble_eq_true rfl) rfl ?_
  refine G.aload_n dX1_carryOut_21 rfl rfl ?_
  refine G.iload_n dX1_carryOut_22 rfl rfl ?_
  refine G.callVi (ci := 5) [.int a3] [] dX1_carryOut_23 lkX1_66 okX5_hour rfl (fun v hv => C_X5_hour hv) (Nat.le_of_ble_eq_true rfl) rfl rfl (Nat.le_of_ble_eq_true rfl) h (fun v4 h => ?_)
  refine G.istore (lv' := [(8, .int v4), (7, .int v3), (6, .int v2), (5, .int v1), (0, .ref a0), (1, .ref a1), (2, .ref a2), (3, .int a3), (4, .int a4)]) dX1_carryOut_26 (Nat.le_of_ble_eq_true rfl) rfl ?_
  refine G.aload_n dX1_carryOut_28 rfl rfl ?_
  refine G.aload_n dX1_carryOut_29 rfl rfl ?_
  refine G.iload dX1_carryOut_30 rfl ?_
  refine G.iload dX1_carryOut_32 rfl ?_
  refine G.callVi (ci := 10) [.int v1, .int v4] [.ref a1] dX1_carryOut_34 lkX1_96 okX10_placeOf rfl (fun v hv => C_X10_placeOf hv) (Nat.le_of_ble_eq_true rfl) rfl rfl (Nat.le_of_ble_eq_true rfl) h (fun v5 h => ?_)
  refine G.iload dX1_carryOut_37 rfl ?_
  refine G.callVi (ci := 10) [.int v5, .int v4] [] dX1_carryOut_39 lkX1_117 okX10_hearers rfl (fun v hv => C_X10_hearers hv) (Nat.le_of_ble_eq_true rfl) rfl rfl (Nat.le_of_ble_eq_true rfl) h (fun v6 h => ?_)
  refine G.iload dX1_carryOut_42 rfl ?_
  refine G.iand dX1_carryOut_44 ?_
  refine G.istore (lv' := [(9, .int (v6 &&& a4)), (8, .int v4), (7, .int v3), (6, .int v2), (5, .int v1), (0, .ref a0), (1, .ref a1), (2, .ref a2), (3, .int a3), (4, .int a4)]) dX1_carryOut_45 (Nat.le_of_ble_eq_true rfl) rfl ?_
  refine G.aload_n dX1_carryOut_47 rfl rfl ?_
  refine G.dup dX1_carryOut_48 rfl ?_
  refine G.getI dX1_carryOut_49 fkX1_32 fr1_5 h (fun v7 h => ?_)
  refine G.iconst (1 : Int32) dX1_carryOut_52 ki_1 ?_
  refine G.iadd dX1_carryOut_53 ?_
  refine G.putI dX1_carryOut_54 fkX1_32 nf1_5 ft1_5 h (fun M8 h => ?_)
  refine G.aload_n dX1_carryOut_57 rfl rfl ?_
  refine G.iload_n dX1_carryOut_58 rfl rfl ?_
  refine G.callVi (ci := 5) [.int a3] [] dX1_carryOut_59 lkX1_85 okX5_sort rfl (fun v hv => C_X5_sort hv) (Nat.le_of_ble_eq_true rfl) rfl rfl (Nat.le_of_ble_eq_true rfl) h (fun v9 h => ?_)
  refine G.sw h (fun c10 h => ?_) (fun c10 h => ?_)
  · refine G.tableIn 88 dX1_carryOut_62 (by rw [c10]; decide) (by rw [c10]; decide) (by rw [c10]; rfl) (by decide) ?_
    refine G.aload_n dX1_carryOut_88 rfl rfl ?_
    refine G.getR dX1_carryOut_89 fkX1_12 fr1_0 h (fun v11 h => ?_)
    refine G.iload dX1_carryOut_92 rfl ?_
    refine G.iload dX1_carryOut_94 rfl ?_
    refine G.iload dX1_carryOut_96 rfl ?_
    refine G.iconst (1 : Int32) dX1_carryOut_98 ki_1 ?_
    refine G.iadd dX1_carryOut_99 ?_
    refine G.callVv (ci := 3) [.int (v6 &&& a4), .int v3, .int (v4 + (1 : Int32))] [] dX1_carryOut_100 lkX1_120 okX3_learn rfl (fun v hv => C_X3_learn hv) (Nat.le_of_ble_eq_true rfl) rfl rfl (Nat.le_of_ble_eq_true rfl) h (fun M13 h => ?_)
    refine G.aload_n dX1_carryOut_103 rfl rfl ?_
    refine G.dup dX1_carryOut_104 rfl ?_
    refine G.getI dX1_carryOut_105 fkX1_28 fr1_4 h (fun v14 h => ?_)
    refine G.iconst (1 : Int32) dX1_carryOut_108 ki_1 ?_
    refine G.iadd dX1_carryOut_109 ?_
    refine G.putI dX1_carryOut_110 fkX1_28 nf1_4 ft1_4 h (fun M15 h => ?_)
    refine G.goto 269 dX1_carryOut_113 (by decide) ?_
    exact G.vretW dX1_carryOut_269 rfl h
  · refine G.sw h (fun c16 h => ?_) (fun c16 h => ?_)
    · refine G.tableIn 116 dX1_carryOut_62 (by rw [c16]; decide) (by rw [c16]; decide) (by rw [c16]; rfl) (by decide) ?_
      refine G.aload_n dX1_carryOut_116 rfl rfl ?_
      refine G.aload_n dX1_carryOut_117 rfl rfl ?_
      refine G.iload dX1_carryOut_118 rfl ?_
      refine G.iload dX1_carryOut_120 rfl ?_
      refine G.callVi (ci := 10) [.int v1, .int v4] [.ref a1] dX1_carryOut_122 lkX1_96 okX10_placeOf rfl (fun v hv => C_X10_placeOf hv) (Nat.le_of_ble_eq_true rfl) rfl rfl (Nat.le_of_ble_eq_true rfl) h (fun v17 h => ?_)
      refine G.iload dX1_carryOut_125 rfl ?_
      refine G.callVi (ci := 10) [.int v17, .int v4] [] dX1_carryOut_127 lkX1_100 okX10_standers rfl (fun v hv => C_X10_standers hv) (Nat.le_of_ble_eq_true rfl) rfl rfl (Nat.le_of_ble_eq_true rfl) h (fun v18 h => ?_)
      refine G.iload dX1_carryOut_130 rfl ?_
      refine G.iand dX1_carryOut_132 ?_
      refine G.istore (lv' := [(10, .int (v18 &&& a4)), (9, .int (v6 &&& a4)), (8, .int v4), (7, .int v3), (6, .int v2), (5, .int v1), (0, .ref a0), (1, .ref a1), (2, .ref a2), (3, .int a3), (4, .int a4)]) dX1_carryOut_133 (Nat.le_of_ble_eq_true rfl) rfl ?_
      refine G.aload_n dX1_carryOut_135 rfl rfl ?_
      refine G.getR dX1_carryOut_136 fkX1_12 fr1_0 h (fun v19 h => ?_)
      refine G.iload dX1_carryOut_139 rfl ?_
      refine G.iload dX1_carryOut_141 rfl ?_
      refine G.iload dX1_carryOut_143 rfl ?_
      refine G.iconst (1 : Int32) dX1_carryOut_145 ki_1 ?_
      refine G.iadd dX1_carryOut_146 ?_
      refine G.callVv (ci := 3) [.int (v18 &&& a4), .int v3, .int (v4 + (1 : Int32))] [] dX1_carryOut_147 lkX1_120 okX3_learn rfl (fun v hv => C_X3_learn hv) (Nat.le_of_ble_eq_true rfl) rfl rfl (Nat.le_of_ble_eq_true rfl) h (fun M21 h => ?_)
      refine G.aload_n dX1_carryOut_150 rfl rfl ?_
      refine G.dup dX1_carryOut_151 rfl ?_
      refine G.getI dX1_carryOut_152 fkX1_28 fr1_4 h (fun v22 h => ?_)
      refine G.aload_n dX1_carryOut_155 rfl rfl ?_
      refine G.getR dX1_carryOut_156 fkX1_124 fr10_10 h (fun v23 h => ?_)
      refine G.iload dX1_carryOut_159 rfl ?_
      refine G.iald dX1_carryOut_161 h (fun v24 h => ?_)
      refine G.iadd dX1_carryOut_162 ?_
      refine G.putI dX1_carryOut_163 fkX1_28 nf1_4 ft1_4 h (fun M25 h => ?_)
      refine G.goto 269 dX1_carryOut_166 (by decide) ?_
      exact G.vretW dX1_carryOut_269 rfl h
    · refine G.sw h (fun c26 h => ?_) (fun c26 h => ?_)
      · refine G.tableIn 169 dX1_carryOut_62 (by rw [c26]; decide) (by rw [c26]; decide) (by rw [c26]; rfl) (by decide) ?_
        refine G.aload_n dX1_carryOut_169 rfl rfl ?_
        refine G.dup dX1_carryOut_170 rfl ?_
        refine G.getI dX1_carryOut_171 fkX1_28 fr1_4 h (fun v27 h => ?_)
        refine G.iconst (5 : Int32) dX1_carryOut_174 ki_5 ?_
        refine G.iadd dX1_carryOut_175 ?_
        refine G.putI dX1_carryOut_176 fkX1_28 nf1_4 ft1_4 h (fun M28 h => ?_)
        refine G.goto 269 dX1_carryOut_179 (by decide) ?_
        exact G.vretW dX1_carryOut_269 rfl h
      · refine G.tableOut 182 dX1_carryOut_62 (sw_out (lo := 0) (hi := 2) (fun z48 g1 g2 ge => ?_)) (by decide) ?_
        · have hz : z48 = 0 ∨ z48 = 1 ∨ z48 = 2 := by omega
          rcases hz with rfl | rfl | rfl
          · exact c10 ge
          · exact c16 ge
          · exact c26 ge
        · refine G.aload_n dX1_carryOut_182 rfl rfl ?_
          refine G.getR dX1_carryOut_183 fkX1_12 fr1_0 h (fun v29 h => ?_)
          refine G.iload dX1_carryOut_186 rfl ?_
          refine G.iload dX1_carryOut_188 rfl ?_
          refine G.iload dX1_carryOut_190 rfl ?_
          refine G.callVi (ci := 3) [.int v2, .int v3, .int v4] [] dX1_carryOut_192 lkX1_109 okX3_has rfl (fun v hv => C_X3_has hv) (Nat.le_of_ble_eq_true rfl) rfl rfl (Nat.le_of_ble_eq_true rfl) h (fun v30 h => ?_)
          refine jn_elim (fun j41 => ∀ (M31 : AM), j41 M31 = some o → G yX1_carryOut cX1_carryOut 11 none 4 229 [(0, .ref a0), (5, .int v1), (7, .int v3), (8, .int v4), (9, .int (v6 &&& a4))] [] M31 none o) h ?_ ?_
          · intro M31 h
            refine G.aload_n dX1_carryOut_229 rfl rfl ?_
            refine G.getR dX1_carryOut_230 fkX1_12 fr1_0 h (fun v32 h => ?_)
            refine G.iload dX1_carryOut_233 rfl ?_
            refine G.iload dX1_carryOut_235 rfl ?_
            refine G.iload dX1_carryOut_237 rfl ?_
            refine G.callVi (ci := 3) [.int v1, .int v3, .int v4] [] dX1_carryOut_239 lkX1_109 okX3_has rfl (fun v hv => C_X3_has hv) (Nat.le_of_ble_eq_true rfl) rfl rfl (Nat.le_of_ble_eq_true rfl) h (fun v33 h => ?_)
            refine jn_elim (fun j37 => ∀ (M34 : AM), j37 M34 = some o → G yX1_carryOut cX1_carryOut 11 none 4 259 [(0, .ref a0)] [] M34 none o) h ?_ ?_
            · intro M34 h
              refine G.aload_n dX1_carryOut_259 rfl rfl ?_
              refine G.dup dX1_carryOut_260 rfl ?_
              refine G.getI dX1_carryOut_261 fkX1_28 fr1_4 h (fun v35 h => ?_)
              refine G.iconst (1 : Int32) dX1_carryOut_264 ki_1 ?_
              refine G.iadd dX1_carryOut_265 ?_
              refine G.putI dX1_carryOut_266 fkX1_28 nf1_4 ft1_4 h (fun M36 h => ?_)
              exact G.vretW dX1_carryOut_269 rfl h
            · intro j37 Jj37 h
              refine G.if_ne 259 dX1_carryOut_242 (by decide) h (fun c38 h => ?_) (fun c38 h => ?_)
              · refine G.aload_n dX1_carryOut_245 rfl rfl ?_
                refine G.iload dX1_carryOut_246 rfl ?_
                refine G.iload dX1_carryOut_248 rfl ?_
                refine G.iload dX1_carryOut_250 rfl ?_
                refine G.iload dX1_carryOut_252 rfl ?_
                refine G.iconst (1 : Int32) dX1_carryOut_254 ki_1 ?_
                refine G.iadd dX1_carryOut_255 ?_
                refine G.callVv (ci := 1) [.int (v6 &&& a4), .int v1, .int v3, .int (v4 + (1 : Int32))] [] dX1_carryOut_256 lkX1_127 okX1_see rfl (fun v hv => C_X1_see hv) (Nat.le_of_ble_eq_true rfl) rfl rfl (Nat.le_of_ble_eq_true rfl) h (fun M40 h => ?_)
                refine G.sub (lv' := [(0, .ref a0)]) [0] rfl ?_
                exact Jj37 _ h
              · refine G.sub (lv' := [(0, .ref a0)]) [0] rfl ?_
                exact Jj37 _ h
          · intro j41 Jj41 h
            refine G.if_eq 229 dX1_carryOut_195 (by decide) h (fun c42 h => ?_) (fun c42 h => ?_)
            · refine G.sub (lv' := [(0, .ref a0), (5, .int v1), (7, .int v3), (8, .int v4), (9, .int (v6 &&& a4))]) [5, 4, 2, 1, 0] rfl ?_
              exact Jj41 _ h
            · refine G.aload_n dX1_carryOut_198 rfl rfl ?_
              refine G.iload dX1_carryOut_199 rfl ?_
              refine G.iload dX1_carryOut_201 rfl ?_
              refine G.iload dX1_carryOut_203 rfl ?_
              refine G.iconst (0 : Int32) dX1_carryOut_205 ki_0 ?_
              refine G.iload dX1_carryOut_206 rfl ?_
              refine G.callVi (ci := 10) [.int v2, .int v1, .int v4, .int (0 : Int32), .int a4] [] dX1_carryOut_208 lkX1_113 okX10_allows rfl (fun v hv => C_X10_allows hv) (Nat.le_of_ble_eq_true rfl) rfl rfl (Nat.le_of_ble_eq_true rfl) h (fun v43 h => ?_)
              refine G.if_eq 229 dX1_carryOut_211 (by decide) h (fun c44 h => ?_) (fun c44 h => ?_)
              · refine G.sub (lv' := [(0, .ref a0), (5, .int v1), (7, .int v3), (8, .int v4), (9, .int (v6 &&& a4))]) [5, 4, 2, 1, 0] rfl ?_
                exact Jj41 _ h
              · refine G.aload_n dX1_carryOut_214 rfl rfl ?_
                refine G.getR dX1_carryOut_215 fkX1_12 fr1_0 h (fun v45 h => ?_)
                refine G.iload dX1_carryOut_218 rfl ?_
                refine G.iload dX1_carryOut_220 rfl ?_
                refine G.iload dX1_carryOut_222 rfl ?_
                refine G.iconst (1 : Int32) dX1_carryOut_224 ki_1 ?_
                refine G.iadd dX1_carryOut_225 ?_
                refine G.callVv (ci := 3) [.int (v6 &&& a4), .int v3, .int (v4 + (1 : Int32))] [] dX1_carryOut_226 lkX1_120 okX3_learn rfl (fun v hv => C_X3_learn hv) (Nat.le_of_ble_eq_true rfl) rfl rfl (Nat.le_of_ble_eq_true rfl) h (fun M47 h => ?_)
                refine G.sub (lv' := [(0, .ref a0), (5, .int v1), (7, .int v3), (8, .int v4), (9, .int (v6 &&& a4))]) [5, 4, 2, 1, 0] rfl ?_
                exact Jj41 _ h
-- OnlyUpward$Course.readWriting(LOnlyUpward$World;LOnlyUpward$Plan;III)V
set_option maxRecDepth 100000 in
set_option maxHeartbeats 4000000 in
def F_X1_readWriting (n : Nat) (M : AM) (a0 : Nat) (a1 : Nat) (a2 : Nat) (a3 : Int32) (a4 : Int32) (a5 : Int32) : Option AM :=
  (rcv 5 M a2 (F_X5_sort n M a2 a3)).bind fun v1 => if v1 = (2 : Int32) then (gR 1 2 M a0).bind fun v3 => (rdI M v3 a3).bind fun v4 => if v4 = 0 then (rcv 5 M a2 (F_X5_person n M a2 a3)).bind fun v6 => (rcv 5 M a2 (F_X5_hour n M a2 a3)).bind fun v7 => (rcv 10 M a1 (F_X10_placeOf n M a1 v6 v7)).bind fun v8 => (gR 1 0 M a0).bind fun v9 => (rcv 10 M a1 (F_X10_standers n M a1 v8 a4)).bind fun v10 => (rcv 5 M a2 (F_X5_thing n M a2 a3)).bind fun v11 => (rcv 3 M v9 (F_X3_learn n M v9 (v10 &&& a5) v11 (a4 + (1 : Int32)))).bind fun M13 => some M13 else some M else some M
set_option maxRecDepth 100000 in
set_option maxHeartbeats 4000000 in
theorem C_X1_readWriting {n : Nat} {M : AM} {a0 : Nat} {a1 : Nat} {a2 : Nat} {a3 : Int32} {a4 : Int32} {a5 : Int32} {o : AM} (h : F_X1_readWriting n M a0 a1 a2 a3 a4 a5 = some o) : Cn yX1_readWriting cX1_readWriting 7 none 2 [.ref a0, .ref a1, .ref a2, .int a3, .int a4, .int a5] M none o := by
  unfold F_X1_readWriting at h
  refine Cn.of rfl (Nat.le_of_ble_eq_true rfl) ?_
  show G yX1_readWriting cX1_readWriting 7 none 2 0 [(0, .ref a0), (1, .ref a1), (2, .ref a2), (3, .int a3), (4, .int a4), (5, .int a5)] [] M none o
  refine G.aload_n dX1_readWriting_0 rfl rfl ?_
  refine G.iload_n dX1_readWriting_1 rfl rfl ?_
  refine G.callVi (ci := 5) [.int a3] [] dX1_readWriting_2 lkX1_85 okX5_sort rfl (fun v hv => C_X5_sort hv) (Nat.le_of_ble_eq_true rfl) rfl rfl (Nat.le_of_ble_eq_true rfl) h (fun v1 h => ?_)
  refine G.iconst (2 : Int32) dX1_readWriting_5 ki_2 ?_
  refine G.icmp_ne 61 dX1_readWriting_6 (by decide) h (fun c2 h => ?_) (fun c2 h => ?_)
  · refine G.aload_n dX1_readWriting_9 rfl rfl ?_
    refine G.getR dX1_readWriting_10 fkX1_22 fr1_2 h (fun v3 h => ?_)
    refine G.iload_n dX1_readWriting_13 rfl rfl ?_
    refine G.iald dX1_readWriting_14 h (fun v4 h => ?_)
    refine G.if_ne 61 dX1_readWriting_15 (by decide) h (fun c5 h => ?_) (fun c5 h => ?_)
    · refine G.aload_n dX1_readWriting_18 rfl rfl ?_
      refine G.aload_n dX1_readWriting_19 rfl rfl ?_
      refine G.iload_n dX1_readWriting_20 rfl rfl ?_
      refine G.callVi (ci := 5) [.int a3] [.ref a1] dX1_readWriting_21 lkX1_82 okX5_person rfl (fun v hv => C_X5_person hv) (Nat.le_of_ble_eq_true rfl) rfl rfl (Nat.le_of_ble_eq_true rfl) h (fun v6 h => ?_)
      refine G.aload_n dX1_readWriting_24 rfl rfl ?_
      refine G.iload_n dX1_readWriting_25 rfl rfl ?_
      refine G.callVi (ci := 5) [.int a3] [.int v6, .ref a1] dX1_readWriting_26 lkX1_66 okX5_hour rfl (fun v hv => C_X5_hour hv) (Nat.le_of_ble_eq_true rfl) rfl rfl (Nat.le_of_ble_eq_true rfl) h (fun v7 h => ?_)
      refine G.callVi (ci := 10) [.int v6, .int v7] [] dX1_readWriting_29 lkX1_96 okX10_placeOf rfl (fun v hv => C_X10_placeOf hv) (Nat.le_of_ble_eq_true rfl) rfl rfl (Nat.le_of_ble_eq_true rfl) h (fun v8 h => ?_)
      refine G.istore (lv' := [(6, .int v8), (0, .ref a0), (1, .ref a1), (2, .ref a2), (3, .int a3), (4, .int a4), (5, .int a5)]) dX1_readWriting_32 (Nat.le_of_ble_eq_true rfl) rfl ?_
      refine G.aload_n dX1_readWriting_34 rfl rfl ?_
      refine G.getR dX1_readWriting_35 fkX1_12 fr1_0 h (fun v9 h => ?_)
      refine G.aload_n dX1_readWriting_38 rfl rfl ?_
      refine G.iload dX1_readWriting_39 rfl ?_
      refine G.iload dX1_readWriting_41 rfl ?_
      refine G.callVi (ci := 10) [.int v8, .int a4] [.ref v9] dX1_readWriting_43 lkX1_100 okX10_standers rfl (fun v hv => C_X10_standers hv) (Nat.le_of_ble_eq_true rfl) rfl rfl (Nat.le_of_ble_eq_true rfl) h (fun v10 h => ?_)
      refine G.iload dX1_readWriting_46 rfl ?_
      refine G.iand dX1_readWriting_48 ?_
      refine G.aload_n dX1_readWriting_49 rfl rfl ?_
      refine G.iload_n dX1_readWriting_50 rfl rfl ?_
      refine G.callVi (ci := 5) [.int a3] [.int (v10 &&& a5), .ref v9] dX1_readWriting_51 lkX1_106 okX5_thing rfl (fun v hv => C_X5_thing hv) (Nat.le_of_ble_eq_true rfl) rfl rfl (Nat.le_of_ble_eq_true rfl) h (fun v11 h => ?_)
      refine G.iload dX1_readWriting_54 rfl ?_
      refine G.iconst (1 : Int32) dX1_readWriting_56 ki_1 ?_
      refine G.iadd dX1_readWriting_57 ?_
      refine G.callVv (ci := 3) [.int (v10 &&& a5), .int v11, .int (a4 + (1 : Int32))] [] dX1_readWriting_58 lkX1_120 okX3_learn rfl (fun v hv => C_X3_learn hv) (Nat.le_of_ble_eq_true rfl) rfl rfl (Nat.le_of_ble_eq_true rfl) h (fun M13 h => ?_)
      exact G.vretW dX1_readWriting_61 rfl h
    · exact G.vretW dX1_readWriting_61 rfl h
  · exact G.vretW dX1_readWriting_61 rfl h
-- OnlyUpward$Course.go(LOnlyUpward$World;LOnlyUpward$Plan;)V
set_option maxRecDepth 100000 in
set_option maxHeartbeats 4000000 in
def F_X1_go (n : Nat) (M : AM) (a0 : Nat) (a1 : Nat) (a2 : Nat) : Option AM :=
  (gR 1 0 M a0).bind fun v1 => (rcv 3 M v1 (F_X3_begin n M v1 a1)).bind fun M3 => (gR 1 1 M3 a0).bind fun v4 => (F_J7_fill_53178 n M3 v4 (99 : Int32)).bind fun M6 => (pI 1 4 M6 a0 (0 : Int32)).bind fun M7 => (pI 1 5 M7 a0 (0 : Int32)).bind fun M8 => (iter (fun (s9 : Int32 × AM) => if (24 : Int32) ≤ s9.1 then some (.inr s9.2) else (rcv 1 s9.2 a0 (F_X1_aliveAt n s9.2 a0 s9.1 a1)).bind fun v11 => (iter (fun (s12 : Int32 × AM) => (gI 5 1 s12.2 a2).bind fun v13 => if v13 ≤ s12.1 then some (.inr s12.2) else (rcv 5 s12.2 a2 (F_X5_hour n s12.2 a2 s12.1)).bind fun v15 => jn (fun (M16 : AM) => some (.inl ((s12.1 + (1 : Int32)), M16))) fun j17 => if v15 = s9.1 then (gR 1 2 s12.2 a0).bind fun v19 => (rcv 1 s12.2 a0 (F_X1_whyNot n s12.2 a0 a1 a2 s12.1 v11)).bind fun v20 => (wrI v20.2 v19 s12.1 v20.1).bind fun M21 => (gR 1 2 M21 a0).bind fun v22 => (rdI M21 v22 s12.1).bind fun v23 => if v23 = 0 then (rcv 1 M21 a0 (F_X1_carryOut n M21 a0 a1 a2 s12.1 v11)).bind fun M26 => j17 M26 else j17 M21 else (rcv 5 s12.2 a2 (F_X5_hour n s12.2 a2 s12.1)).bind fun v27 => if s9.1 ≤ v27 then j17 s12.2 else (rcv 1 s12.2 a0 (F_X1_readWriting n s12.2 a0 a1 a2 s12.1 s9.1 v11)).bind fun M30 => j17 M30) n ((0 : Int32), s9.2)).bind fun (e12 : AM) => some (.inl ((s9.1 + (1 : Int32)), e12))) n ((0 : Int32), M8)).bind fun (e9 : AM) => some e9
set_option maxRecDepth 100000 in
set_option maxHeartbeats 4000000 in
theorem C_X1_go {n : Nat} {M : AM} {a0 : Nat} {a1 : Nat} {a2 : Nat} {o : AM} (h : F_X1_go n M a0 a1 a2 = some o) : Cn yX1_go cX1_go 6 none 5 [.ref a0, .ref a1, .ref a2] M none o := by
  unfold F_X1_go at h
  refine Cn.of rfl (Nat.le_of_ble_eq_true rfl) ?_
  show G yX1_go cX1_go 6 none 5 0 [(0, .ref a0), (1, .ref a1), (2, .ref a2)] [] M none o
  refine G.aload_n dX1_go_0 rfl rfl ?_
  refine G.getR dX1_go_1 fkX1_12 fr1_0 h (fun v1 h => ?_)
  refine G.aload_n dX1_go_4 rfl rfl ?_
  refine G.callVv (ci := 3) [.ref a1] [] dX1_go_5 lkX1_53 okX3_begin rfl (fun v hv => C_X3_begin hv) (Nat.le_of_ble_eq_true rfl) rfl rfl (Nat.le_of_ble_eq_true rfl) h (fun M3 h => ?_)
  refine G.aload_n dX1_go_8 rfl rfl ?_
  refine G.getR dX1_go_9 fkX1_18 fr1_1 h (fun v4 h => ?_)
  refine G.bipush (99 : Int32) dX1_go_12 kb_99 ?_
  refine G.callSv [.ref v4, .int (99 : Int32)] [] dX1_go_14 lkX1_35 okJ7_fill_53178 (fun v hv => C_J7_fill_53178 hv) (Nat.le_of_ble_eq_true rfl) rfl rfl (Nat.le_of_ble_eq_true rfl) h (fun M6 h => ?_)
  refine G.aload_n dX1_go_17 rfl rfl ?_
  refine G.iconst (0 : Int32) dX1_go_18 ki_0 ?_
  refine G.putI dX1_go_19 fkX1_28 nf1_4 ft1_4 h (fun M7 h => ?_)
  refine G.aload_n dX1_go_22 rfl rfl ?_
  refine G.iconst (0 : Int32) dX1_go_23 ki_0 ?_
  refine G.putI dX1_go_24 fkX1_32 nf1_5 ft1_5 h (fun M8 h => ?_)
  refine G.iconst (0 : Int32) dX1_go_27 ki_0 ?_
  refine G.istore_n (lv' := [(3, .int (0 : Int32)), (0, .ref a0), (1, .ref a1), (2, .ref a2)]) dX1_go_28 rfl (Nat.le_of_ble_eq_true rfl) rfl ?_
  refine G.sub (lv' := [(0, .ref a0), (1, .ref a1), (2, .ref a2), (3, .int (0 : Int32))]) [1, 2, 3, 0] rfl ?_
  refine loopE (fun (s9 : Int32 × AM) => G yX1_go cX1_go 6 none 5 29 [(0, .ref a0), (1, .ref a1), (2, .ref a2), (3, .int s9.1)] [] s9.2 none o) (fun (e9 : AM) => G yX1_go cX1_go 6 none 5 138 [] [] e9 none o) h ?_ ?_
  · intro e9 h
    show G yX1_go cX1_go 6 none 5 138 [] [] e9 none o
    exact G.vretW dX1_go_138 rfl h
  · intro s9 x9 h K9
    show G yX1_go cX1_go 6 none 5 29 [(0, .ref a0), (1, .ref a1), (2, .ref a2), (3, .int s9.1)] [] s9.2 none o
    refine G.iload_n dX1_go_29 rfl rfl ?_
    refine G.bipush (24 : Int32) dX1_go_30 kb_24 ?_
    refine G.icmp_ge 138 dX1_go_32 (by decide) h (fun c10 h => ?_) (fun c10 h => ?_)
    · refine G.sub (lv' := []) [] rfl ?_
      have h := leafR' h K9
      exact h
    · refine G.aload_n dX1_go_35 rfl rfl ?_
      refine G.iload_n dX1_go_36 rfl rfl ?_
      refine G.aload_n dX1_go_37 rfl rfl ?_
      refine G.callVi (ci := 1) [.int s9.1, .ref a1] [] dX1_go_38 lkX1_57 okX1_aliveAt rfl (fun v hv => C_X1_aliveAt hv) (Nat.le_of_ble_eq_true rfl) rfl rfl (Nat.le_of_ble_eq_true rfl) h (fun v11 h => ?_)
      refine G.istore (lv' := [(4, .int v11), (0, .ref a0), (1, .ref a1), (2, .ref a2), (3, .int s9.1)]) dX1_go_41 (Nat.le_of_ble_eq_true rfl) rfl ?_
      refine G.iconst (0 : Int32) dX1_go_43 ki_0 ?_
      refine G.istore (lv' := [(5, .int (0 : Int32)), (4, .int v11), (0, .ref a0), (1, .ref a1), (2, .ref a2), (3, .int s9.1)]) dX1_go_44 (Nat.le_of_ble_eq_true rfl) rfl ?_
      refine G.sub (lv' := [(0, .ref a0), (1, .ref a1), (2, .ref a2), (3, .int s9.1), (4, .int v11), (5, .int (0 : Int32))]) [2, 3, 4, 5, 1, 0] rfl ?_
      refine loopE (fun (s12 : Int32 × AM) => G yX1_go cX1_go 6 none 5 46 [(0, .ref a0), (1, .ref a1), (2, .ref a2), (3, .int s9.1), (4, .int v11), (5, .int s12.1)] [] s12.2 none o) (fun (e12 : AM) => G yX1_go cX1_go 6 none 5 132 [(0, .ref a0), (1, .ref a1), (2, .ref a2), (3, .int s9.1)] [] e12 none o) h ?_ ?_
      · intro e12 h
        show G yX1_go cX1_go 6 none 5 132 [(0, .ref a0), (1, .ref a1), (2, .ref a2), (3, .int s9.1)] [] e12 none o
        refine G.iinc s9.1 (w := (s9.1 + (1 : Int32))) (lv' := [(3, .int (s9.1 + (1 : Int32))), (0, .ref a0), (1, .ref a1), (2, .ref a2)]) dX1_go_132 rfl rfl (Nat.le_of_ble_eq_true rfl) rfl ?_
        refine G.goto 29 dX1_go_135 (by decide) ?_
        refine G.sub (lv' := [(0, .ref a0), (1, .ref a1), (2, .ref a2), (3, .int (s9.1 + (1 : Int32)))]) [1, 2, 3, 0] rfl ?_
        have h := leafL' h K9
        exact h
      · intro s12 x12 h K12
        show G yX1_go cX1_go 6 none 5 46 [(0, .ref a0), (1, .ref a1), (2, .ref a2), (3, .int s9.1), (4, .int v11), (5, .int s12.1)] [] s12.2 none o
        refine G.iload dX1_go_46 rfl ?_
        refine G.aload_n dX1_go_48 rfl rfl ?_
        refine G.getI dX1_go_49 fkX1_61 fr5_1 h (fun v13 h => ?_)
        refine G.icmp_ge 132 dX1_go_52 (by decide) h (fun c14 h => ?_) (fun c14 h => ?_)
        · refine G.sub (lv' := [(0, .ref a0), (1, .ref a1), (2, .ref a2), (3, .int s9.1)]) [0, 1, 2, 3] rfl ?_
          have h := leafR' h K12
          exact h
        · refine G.aload_n dX1_go_55 rfl rfl ?_
          refine G.iload dX1_go_56 rfl ?_
          refine G.callVi (ci := 5) [.int s12.1] [] dX1_go_58 lkX1_66 okX5_hour rfl (fun v hv => C_X5_hour hv) (Nat.le_of_ble_eq_true rfl) rfl rfl (Nat.le_of_ble_eq_true rfl) h (fun v15 h => ?_)
          refine G.iload_n dX1_go_61 rfl rfl ?_
          refine jn_elim (fun j17 => ∀ (M16 : AM), j17 M16 = some x12 → G yX1_go cX1_go 6 none 5 126 [(0, .ref a0), (1, .ref a1), (2, .ref a2), (3, .int s9.1), (4, .int v11), (5, .int s12.1)] [] M16 none o) h ?_ ?_
          · intro M16 h
            refine G.iinc s12.1 (w := (s12.1 + (1 : Int32))) (lv' := [(5, .int (s12.1 + (1 : Int32))), (0, .ref a0), (1, .ref a1), (2, .ref a2), (3, .int s9.1), (4, .int v11)]) dX1_go_126 rfl rfl (Nat.le_of_ble_eq_true rfl) rfl ?_
            refine G.goto 46 dX1_go_129 (by decide) ?_
            refine G.sub (lv' := [(0, .ref a0), (1, .ref a1), (2, .ref a2), (3, .int s9.1), (4, .int v11), (5, .int (s12.1 + (1 : Int32)))]) [1, 2, 3, 4, 5, 0] rfl ?_
            have h := leafL' h K12
            exact h
          · intro j17 Jj17 h
            refine G.icmp_ne 105 dX1_go_62 (by decide) h (fun c18 h => ?_) (fun c18 h => ?_)
            · refine G.aload_n dX1_go_65 rfl rfl ?_
              refine G.getR dX1_go_66 fkX1_22 fr1_2 h (fun v19 h => ?_)
              refine G.iload dX1_go_69 rfl ?_
              refine G.aload_n dX1_go_71 rfl rfl ?_
              refine G.aload_n dX1_go_72 rfl rfl ?_
              refine G.aload_n dX1_go_73 rfl rfl ?_
              refine G.iload dX1_go_74 rfl ?_
              refine G.iload dX1_go_76 rfl ?_
              refine G.callVi (ci := 1) [.ref a1, .ref a2, .int s12.1, .int v11] [.int s12.1, .ref v19] dX1_go_78 lkX1_70 okX1_whyNot rfl (fun v hv => C_X1_whyNot hv) (Nat.le_of_ble_eq_true rfl) rfl rfl (Nat.le_of_ble_eq_true rfl) h (fun v20 h => ?_)
              refine G.iast dX1_go_81 h (fun M21 h => ?_)
              refine G.aload_n dX1_go_82 rfl rfl ?_
              refine G.getR dX1_go_83 fkX1_22 fr1_2 h (fun v22 h => ?_)
              refine G.iload dX1_go_86 rfl ?_
              refine G.iald dX1_go_88 h (fun v23 h => ?_)
              refine G.if_ne 126 dX1_go_89 (by decide) h (fun c24 h => ?_) (fun c24 h => ?_)
              · refine G.aload_n dX1_go_92 rfl rfl ?_
                refine G.aload_n dX1_go_93 rfl rfl ?_
                refine G.aload_n dX1_go_94 rfl rfl ?_
                refine G.iload dX1_go_95 rfl ?_
                refine G.iload dX1_go_97 rfl ?_
                refine G.callVv (ci := 1) [.ref a1, .ref a2, .int s12.1, .int v11] [] dX1_go_99 lkX1_74 okX1_carryOut rfl (fun v hv => C_X1_carryOut hv) (Nat.le_of_ble_eq_true rfl) rfl rfl (Nat.le_of_ble_eq_true rfl) h (fun M26 h => ?_)
                refine G.goto 126 dX1_go_102 (by decide) ?_
                refine G.sub (lv' := [(0, .ref a0), (1, .ref a1), (2, .ref a2), (3, .int s9.1), (4, .int v11), (5, .int s12.1)]) [0, 1, 2, 3, 4, 5] rfl ?_
                exact Jj17 _ h
              · refine G.sub (lv' := [(0, .ref a0), (1, .ref a1), (2, .ref a2), (3, .int s9.1), (4, .int v11), (5, .int s12.1)]) [0, 1, 2, 3, 4, 5] rfl ?_
                exact Jj17 _ h
            · refine G.aload_n dX1_go_105 rfl rfl ?_
              refine G.iload dX1_go_106 rfl ?_
              refine G.callVi (ci := 5) [.int s12.1] [] dX1_go_108 lkX1_66 okX5_hour rfl (fun v hv => C_X5_hour hv) (Nat.le_of_ble_eq_true rfl) rfl rfl (Nat.le_of_ble_eq_true rfl) h (fun v27 h => ?_)
              refine G.iload_n dX1_go_111 rfl rfl ?_
              refine G.icmp_ge 126 dX1_go_112 (by decide) h (fun c28 h => ?_) (fun c28 h => ?_)
              · refine G.sub (lv' := [(0, .ref a0), (1, .ref a1), (2, .ref a2), (3, .int s9.1), (4, .int v11), (5, .int s12.1)]) [0, 1, 2, 3, 4, 5] rfl ?_
                exact Jj17 _ h
              · refine G.aload_n dX1_go_115 rfl rfl ?_
                refine G.aload_n dX1_go_116 rfl rfl ?_
                refine G.aload_n dX1_go_117 rfl rfl ?_
                refine G.iload dX1_go_118 rfl ?_
                refine G.iload_n dX1_go_120 rfl rfl ?_
                refine G.iload dX1_go_121 rfl ?_
                refine G.callVv (ci := 1) [.ref a1, .ref a2, .int s12.1, .int s9.1, .int v11] [] dX1_go_123 lkX1_78 okX1_readWriting rfl (fun v hv => C_X1_readWriting hv) (Nat.le_of_ble_eq_true rfl) rfl rfl (Nat.le_of_ble_eq_true rfl) h (fun M30 h => ?_)
                refine G.sub (lv' := [(0, .ref a0), (1, .ref a1), (2, .ref a2), (3, .int s9.1), (4, .int v11), (5, .int s12.1)]) [0, 1, 2, 3, 4, 5] rfl ?_
                exact Jj17 _ h
-- OnlyUpward.planCourse()LOnlyUpward$Course;
set_option maxRecDepth 100000 in
set_option maxHeartbeats 4000000 in
def F_X11_planCourse (n : Nat) (M : AM) (a0 : Nat) : Option (Nat × AM) :=
  (gI 11 10 M a0).bind fun v1 => jn (fun (M2 : AM) => (gR 11 9 M2 a0).bind fun v3 => some (v3, M2)) fun j4 => if v1 = 0 then (gR 11 9 M a0).bind fun v6 => (rcv 1 M v6 (F_X1_nobodyDies n M v6)).bind fun M8 => (gR 11 9 M8 a0).bind fun v9 => (gR 11 6 M8 a0).bind fun v10 => (gR 11 8 M8 a0).bind fun v11 => (rcv 1 M8 v9 (F_X1_go n M8 v9 v10 v11)).bind fun M13 => (pZ 11 10 M13 a0 (1 : Int32)).bind fun M14 => j4 M14 else j4 M
set_option maxRecDepth 100000 in
set_option maxHeartbeats 4000000 in
theorem C_X11_planCourse {n : Nat} {M : AM} {a0 : Nat} {o : (Nat × AM)} (h : F_X11_planCourse n M a0 = some o) : Cn yX11_planCourse cX11_planCourse 1 (some (.object "OnlyUpward$Course")) 6 [.ref a0] M (some (.ref o.1)) o.2 := by
  unfold F_X11_planCourse at h
  refine Cn.of rfl (Nat.le_of_ble_eq_true rfl) ?_
  show G yX11_planCourse cX11_planCourse 1 (some (.object "OnlyUpward$Course")) 6 0 [(0, .ref a0)] [] M (some (.ref o.1)) o.2
  refine G.aload_n dX11_planCourse_0 rfl rfl ?_
  refine G.getI dX11_planCourse_1 fkX11_67 fr11_10 h (fun v1 h => ?_)
  refine jn_elim (fun j4 => ∀ (M2 : AM), j4 M2 = some o → G yX11_planCourse cX11_planCourse 1 (some (.object "OnlyUpward$Course")) 6 34 [(0, .ref a0)] [] M2 (some (.ref o.1)) o.2) h ?_ ?_
  · intro M2 h
    refine G.aload_n dX11_planCourse_34 rfl rfl ?_
    refine G.getR dX11_planCourse_35 fkX11_63 fr11_9 h (fun v3 h => ?_)
    exact G.aretW dX11_planCourse_38 rfl h
  · intro j4 Jj4 h
    refine G.if_ne 34 dX11_planCourse_4 (by decide) h (fun c5 h => ?_) (fun c5 h => ?_)
    · refine G.aload_n dX11_planCourse_7 rfl rfl ?_
      refine G.getR dX11_planCourse_8 fkX11_63 fr11_9 h (fun v6 h => ?_)
      refine G.callVv (ci := 1) [] [] dX11_planCourse_11 lkX11_205 okX1_nobodyDies rfl (fun v hv => C_X1_nobodyDies hv) (Nat.le_of_ble_eq_true rfl) rfl rfl (Nat.le_of_ble_eq_true rfl) h (fun M8 h => ?_)
      refine G.aload_n dX11_planCourse_14 rfl rfl ?_
      refine G.getR dX11_planCourse_15 fkX11_63 fr11_9 h (fun v9 h => ?_)
      refine G.aload_n dX11_planCourse_18 rfl rfl ?_
      refine G.getR dX11_planCourse_19 fkX11_46 fr11_6 h (fun v10 h => ?_)
      refine G.aload_n dX11_planCourse_22 rfl rfl ?_
      refine G.getR dX11_planCourse_23 fkX11_56 fr11_8 h (fun v11 h => ?_)
      refine G.callVv (ci := 1) [.ref v10, .ref v11] [] dX11_planCourse_26 lkX11_208 okX1_go rfl (fun v hv => C_X1_go hv) (Nat.le_of_ble_eq_true rfl) rfl rfl (Nat.le_of_ble_eq_true rfl) h (fun M13 h => ?_)
      refine G.aload_n dX11_planCourse_29 rfl rfl ?_
      refine G.iconst (1 : Int32) dX11_planCourse_30 ki_1 ?_
      refine G.putZ dX11_planCourse_31 fkX11_67 nf11_10 ft11_10 h (fun M14 h => ?_)
      refine G.sub (lv' := [(0, .ref a0)]) [0] rfl ?_
      exact Jj4 _ h
    · refine G.sub (lv' := [(0, .ref a0)]) [0] rfl ?_
      exact Jj4 _ h
-- OnlyUpward.doing(II)I
set_option maxRecDepth 100000 in
set_option maxHeartbeats 4000000 in
def F_X11_doing (n : Nat) (M : AM) (a0 : Nat) (a1 : Int32) (a2 : Int32) : Option (Int32 × AM) :=
  (gR 11 8 M a0).bind fun v1 => (rcv 5 M v1 (F_X5_has n M v1 a1)).bind fun v2 => if v2 = 0 then some ((-1 : Int32), M) else if a2 < 0 then some ((-1 : Int32), M) else if a2 ≤ (5 : Int32) then if a2 = (5 : Int32) then (rcv 11 M a0 (F_X11_planCourse n M a0)).bind fun v7 => (gR 1 2 v7.2 v7.1).bind fun v8 => (rdI v7.2 v8 a1).bind fun v9 => some (v9, v7.2) else (gR 11 8 M a0).bind fun v10 => (rcv 5 M v10 (F_X5_part n M v10 a1 a2)).bind fun v11 => some (v11, M) else some ((-1 : Int32), M)
set_option maxRecDepth 100000 in
set_option maxHeartbeats 4000000 in
theorem C_X11_doing {n : Nat} {M : AM} {a0 : Nat} {a1 : Int32} {a2 : Int32} {o : (Int32 × AM)} (h : F_X11_doing n M a0 a1 a2 = some o) : Cn yX11_doing cX11_doing 3 (some .int) 7 [.ref a0, .int a1, .int a2] M (some (.int o.1)) o.2 := by
  unfold F_X11_doing at h
  refine Cn.of rfl (Nat.le_of_ble_eq_true rfl) ?_
  show G yX11_doing cX11_doing 3 (some .int) 7 0 [(0, .ref a0), (1, .int a1), (2, .int a2)] [] M (some (.int o.1)) o.2
  refine G.aload_n dX11_doing_0 rfl rfl ?_
  refine G.getR dX11_doing_1 fkX11_56 fr11_8 h (fun v1 h => ?_)
  refine G.iload_n dX11_doing_4 rfl rfl ?_
  refine G.callVi (ci := 5) [.int a1] [] dX11_doing_5 lkX11_180 okX5_has rfl (fun v hv => C_X5_has hv) (Nat.le_of_ble_eq_true rfl) rfl rfl (Nat.le_of_ble_eq_true rfl) h (fun v2 h => ?_)
  refine G.if_eq 20 dX11_doing_8 (by decide) h (fun c3 h => ?_) (fun c3 h => ?_)
  · refine G.iconst (-1 : Int32) dX11_doing_20 ki_m1 ?_
    exact G.iretW dX11_doing_21 rfl (rfl) h
  · refine G.iload_n dX11_doing_11 rfl rfl ?_
    refine G.if_lt 20 dX11_doing_12 (by decide) h (fun c4 h => ?_) (fun c4 h => ?_)
    · refine G.iconst (-1 : Int32) dX11_doing_20 ki_m1 ?_
      exact G.iretW dX11_doing_21 rfl (rfl) h
    · refine G.iload_n dX11_doing_15 rfl rfl ?_
      refine G.iconst (5 : Int32) dX11_doing_16 ki_5 ?_
      refine G.icmp_le 22 dX11_doing_17 (by decide) h (fun c5 h => ?_) (fun c5 h => ?_)
      · refine G.iload_n dX11_doing_22 rfl rfl ?_
        refine G.iconst (5 : Int32) dX11_doing_23 ki_5 ?_
        refine G.icmp_ne 39 dX11_doing_24 (by decide) h (fun c6 h => ?_) (fun c6 h => ?_)
        · refine G.aload_n dX11_doing_27 rfl rfl ?_
          refine G.callVr (ci := 11) [] [] dX11_doing_28 lkX11_189 okX11_planCourse rfl (fun v hv => C_X11_planCourse hv) (Nat.le_of_ble_eq_true rfl) rfl rfl (Nat.le_of_ble_eq_true rfl) h (fun v7 h => ?_)
          refine G.getR dX11_doing_31 fkX11_193 fr1_2 h (fun v8 h => ?_)
          refine G.iload_n dX11_doing_34 rfl rfl ?_
          refine G.iald dX11_doing_35 h (fun v9 h => ?_)
          refine G.goto 48 dX11_doing_36 (by decide) ?_
          exact G.iretW dX11_doing_48 rfl (rfl) h
        · refine G.aload_n dX11_doing_39 rfl rfl ?_
          refine G.getR dX11_doing_40 fkX11_56 fr11_8 h (fun v10 h => ?_)
          refine G.iload_n dX11_doing_43 rfl rfl ?_
          refine G.iload_n dX11_doing_44 rfl rfl ?_
          refine G.callVi (ci := 5) [.int a1, .int a2] [] dX11_doing_45 lkX11_196 okX5_part rfl (fun v hv => C_X5_part hv) (Nat.le_of_ble_eq_true rfl) rfl rfl (Nat.le_of_ble_eq_true rfl) h (fun v11 h => ?_)
          exact G.iretW dX11_doing_48 rfl (rfl) h
      · refine G.iconst (-1 : Int32) dX11_doing_20 ki_m1 ?_
        exact G.iretW dX11_doing_21 rfl (rfl) h
-- OnlyUpward$Course.firstNotDone(LOnlyUpward$Plan;)I
set_option maxRecDepth 100000 in
set_option maxHeartbeats 4000000 in
def F_X1_firstNotDone (n : Nat) (M : AM) (a0 : Nat) (a1 : Nat) : Option Int32 :=
  (iter (fun (s1 : Int32 × Int32) => (gI 5 1 M a1).bind fun v2 => if v2 ≤ s1.2 then some (.inr s1.1) else jn (fun (u4 : Int32) => (gR 1 2 M a0).bind fun v5 => (rdI M v5 s1.2).bind fun v6 => jn (fun (u7 : Int32) => some (.inl (u7, (s1.2 + (1 : Int32))))) fun j8 => if v6 = 0 then j8 s1.1 else if u4 = 0 then j8 s1.1 else j8 s1.2) fun j11 => jn (j11 (1 : Int32)) fun j12 => if s1.1 = (-2 : Int32) then j12 else (rcv 5 M a1 (F_X5_hour n M a1 s1.2)).bind fun v14 => (rcv 5 M a1 (F_X5_hour n M a1 s1.1)).bind fun v15 => if v15 ≤ v14 then j11 (0 : Int32) else j12) n ((-2 : Int32), (0 : Int32))).bind fun (e1 : Int32) => some e1
set_option maxRecDepth 100000 in
set_option maxHeartbeats 4000000 in
theorem C_X1_firstNotDone {n : Nat} {M : AM} {a0 : Nat} {a1 : Nat} {o : Int32} (h : F_X1_firstNotDone n M a0 a1 = some o) : Cn yX1_firstNotDone cX1_firstNotDone 5 (some .int) 2 [.ref a0, .ref a1] M (some (.int o)) M := by
  unfold F_X1_firstNotDone at h
  refine Cn.of rfl (Nat.le_of_ble_eq_true rfl) ?_
  show G yX1_firstNotDone cX1_firstNotDone 5 (some .int) 2 0 [(0, .ref a0), (1, .ref a1)] [] M (some (.int o)) M
  refine G.bipush (-2 : Int32) dX1_firstNotDone_0 kb_m2 ?_
  refine G.istore_n (lv' := [(2, .int (-2 : Int32)), (0, .ref a0), (1, .ref a1)]) dX1_firstNotDone_2 rfl (Nat.le_of_ble_eq_true rfl) rfl ?_
  refine G.iconst (0 : Int32) dX1_firstNotDone_3 ki_0 ?_
  refine G.istore_n (lv' := [(3, .int (0 : Int32)), (2, .int (-2 : Int32)), (0, .ref a0), (1, .ref a1)]) dX1_firstNotDone_4 rfl (Nat.le_of_ble_eq_true rfl) rfl ?_
  refine G.sub (lv' := [(0, .ref a0), (1, .ref a1), (2, .int (-2 : Int32)), (3, .int (0 : Int32))]) [2, 3, 1, 0] rfl ?_
  refine loopE (fun (s1 : Int32 × Int32) => G yX1_firstNotDone cX1_firstNotDone 5 (some .int) 2 5 [(0, .ref a0), (1, .ref a1), (2, .int s1.1), (3, .int s1.2)] [] M (some (.int o)) M) (fun (e1 : Int32) => G yX1_firstNotDone cX1_firstNotDone 5 (some .int) 2 61 [(2, .int e1)] [] M (some (.int o)) M) h ?_ ?_
  · intro e1 h
    show G yX1_firstNotDone cX1_firstNotDone 5 (some .int) 2 61 [(2, .int e1)] [] M (some (.int o)) M
    refine G.iload_n dX1_firstNotDone_61 rfl rfl ?_
    exact G.iret dX1_firstNotDone_62 rfl (rfl) h
  · intro s1 x1 h K1
    show G yX1_firstNotDone cX1_firstNotDone 5 (some .int) 2 5 [(0, .ref a0), (1, .ref a1), (2, .int s1.1), (3, .int s1.2)] [] M (some (.int o)) M
    refine G.iload_n dX1_firstNotDone_5 rfl rfl ?_
    refine G.aload_n dX1_firstNotDone_6 rfl rfl ?_
    refine G.getI dX1_firstNotDone_7 fkX1_61 fr5_1 h (fun v2 h => ?_)
    refine G.icmp_ge 61 dX1_firstNotDone_10 (by decide) h (fun c3 h => ?_) (fun c3 h => ?_)
    · refine G.sub (lv' := [(2, .int s1.1)]) [2] rfl ?_
      have h := leafR' h K1
      exact h
    · refine G.iload_n dX1_firstNotDone_13 rfl rfl ?_
      refine G.bipush (-2 : Int32) dX1_firstNotDone_14 kb_m2 ?_
      refine jn_elim (fun j11 => ∀ (u4 : Int32), j11 u4 = some x1 → G yX1_firstNotDone cX1_firstNotDone 5 (some .int) 2 37 [(0, .ref a0), (1, .ref a1), (2, .int s1.1), (3, .int s1.2)] [.int u4] M (some (.int o)) M) h ?_ ?_
      · intro u4 h
        refine G.istore (lv' := [(4, .int u4), (0, .ref a0), (1, .ref a1), (2, .int s1.1), (3, .int s1.2)]) dX1_firstNotDone_37 (Nat.le_of_ble_eq_true rfl) rfl ?_
        refine G.aload_n dX1_firstNotDone_39 rfl rfl ?_
        refine G.getR dX1_firstNotDone_40 fkX1_22 fr1_2 h (fun v5 h => ?_)
        refine G.iload_n dX1_firstNotDone_43 rfl rfl ?_
        refine G.iald dX1_firstNotDone_44 h (fun v6 h => ?_)
        refine jn_elim (fun j8 => ∀ (u7 : Int32), j8 u7 = some x1 → G yX1_firstNotDone cX1_firstNotDone 5 (some .int) 2 55 [(0, .ref a0), (1, .ref a1), (2, .int u7), (3, .int s1.2)] [] M (some (.int o)) M) h ?_ ?_
        · intro u7 h
          refine G.iinc s1.2 (w := (s1.2 + (1 : Int32))) (lv' := [(3, .int (s1.2 + (1 : Int32))), (0, .ref a0), (1, .ref a1), (2, .int u7)]) dX1_firstNotDone_55 rfl rfl (Nat.le_of_ble_eq_true rfl) rfl ?_
          refine G.goto 5 dX1_firstNotDone_58 (by decide) ?_
          refine G.sub (lv' := [(0, .ref a0), (1, .ref a1), (2, .int u7), (3, .int (s1.2 + (1 : Int32)))]) [1, 2, 3, 0] rfl ?_
          have h := leafL' h K1
          exact h
        · intro j8 Jj8 h
          refine G.if_eq 55 dX1_firstNotDone_45 (by decide) h (fun c9 h => ?_) (fun c9 h => ?_)
          · refine G.sub (lv' := [(0, .ref a0), (1, .ref a1), (2, .int s1.1), (3, .int s1.2)]) [1, 2, 3, 4] rfl ?_
            exact Jj8 _ h
          · refine G.iload dX1_firstNotDone_48 rfl ?_
            refine G.if_eq 55 dX1_firstNotDone_50 (by decide) h (fun c10 h => ?_) (fun c10 h => ?_)
            · refine G.sub (lv' := [(0, .ref a0), (1, .ref a1), (2, .int s1.1), (3, .int s1.2)]) [1, 2, 3, 4] rfl ?_
              exact Jj8 _ h
            · refine G.iload_n dX1_firstNotDone_53 rfl rfl ?_
              refine G.istore_n (lv' := [(2, .int s1.2), (4, .int u4), (0, .ref a0), (1, .ref a1), (3, .int s1.2)]) dX1_firstNotDone_54 rfl (Nat.le_of_ble_eq_true rfl) rfl ?_
              refine G.sub (lv' := [(0, .ref a0), (1, .ref a1), (2, .int s1.2), (3, .int s1.2)]) [2, 3, 0, 4] rfl ?_
              exact Jj8 _ h
      · intro j11 Jj11 h
        refine jn_elim (fun j12 => j12 = some x1 → G yX1_firstNotDone cX1_firstNotDone 5 (some .int) 2 32 [(0, .ref a0), (1, .ref a1), (2, .int s1.1), (3, .int s1.2)] [] M (some (.int o)) M) h ?_ ?_
        · intro h
          refine G.iconst (1 : Int32) dX1_firstNotDone_32 ki_1 ?_
          refine G.goto 37 dX1_firstNotDone_33 (by decide) ?_
          refine G.sub (lv' := [(0, .ref a0), (1, .ref a1), (2, .int s1.1), (3, .int s1.2)]) [0, 1, 2, 3] rfl ?_
          exact Jj11 _ h
        · intro j12 Jj12 h
          refine G.icmp_eq 32 dX1_firstNotDone_16 (by decide) h (fun c13 h => ?_) (fun c13 h => ?_)
          · refine G.sub (lv' := [(0, .ref a0), (1, .ref a1), (2, .int s1.1), (3, .int s1.2)]) [0, 1, 2, 3] rfl ?_
            exact Jj12  h
          · refine G.aload_n dX1_firstNotDone_19 rfl rfl ?_
            refine G.iload_n dX1_firstNotDone_20 rfl rfl ?_
            refine G.callVi (ci := 5) [.int s1.2] [] dX1_firstNotDone_21 lkX1_66 okX5_hour rfl (fun v hv => C_X5_hour hv) (Nat.le_of_ble_eq_true rfl) rfl rfl (Nat.le_of_ble_eq_true rfl) h (fun v14 h => ?_)
            refine G.aload_n dX1_firstNotDone_24 rfl rfl ?_
            refine G.iload_n dX1_firstNotDone_25 rfl rfl ?_
            refine G.callVi (ci := 5) [.int s1.1] [.int v14] dX1_firstNotDone_26 lkX1_66 okX5_hour rfl (fun v hv => C_X5_hour hv) (Nat.le_of_ble_eq_true rfl) rfl rfl (Nat.le_of_ble_eq_true rfl) h (fun v15 h => ?_)
            refine G.icmp_ge 36 dX1_firstNotDone_29 (by decide) h (fun c16 h => ?_) (fun c16 h => ?_)
            · refine G.iconst (0 : Int32) dX1_firstNotDone_36 ki_0 ?_
              refine G.sub (lv' := [(0, .ref a0), (1, .ref a1), (2, .int s1.1), (3, .int s1.2)]) [0, 1, 2, 3] rfl ?_
              exact Jj11 _ h
            · refine G.sub (lv' := [(0, .ref a0), (1, .ref a1), (2, .int s1.1), (3, .int s1.2)]) [0, 1, 2, 3] rfl ?_
              exact Jj12  h
-- OnlyUpward.judge()I
set_option maxRecDepth 100000 in
set_option maxHeartbeats 4000000 in
def F_X11_judge (n : Nat) (M : AM) (a0 : Nat) : Option (Int32 × AM) :=
  (rcv 11 M a0 (F_X11_planCourse n M a0)).bind fun v1 => (gR 11 8 v1.2 a0).bind fun v2 => (rcv 1 v1.2 v1.1 (F_X1_firstNotDone n v1.2 v1.1 v2)).bind fun v3 => some (v3, v1.2)
set_option maxRecDepth 100000 in
set_option maxHeartbeats 4000000 in
theorem C_X11_judge {n : Nat} {M : AM} {a0 : Nat} {o : (Int32 × AM)} (h : F_X11_judge n M a0 = some o) : Cn yX11_judge cX11_judge 1 (some .int) 7 [.ref a0] M (some (.int o.1)) o.2 := by
  unfold F_X11_judge at h
  refine Cn.of rfl (Nat.le_of_ble_eq_true rfl) ?_
  show G yX11_judge cX11_judge 1 (some .int) 7 0 [(0, .ref a0)] [] M (some (.int o.1)) o.2
  refine G.aload_n dX11_judge_0 rfl rfl ?_
  refine G.callVr (ci := 11) [] [] dX11_judge_1 lkX11_189 okX11_planCourse rfl (fun v hv => C_X11_planCourse hv) (Nat.le_of_ble_eq_true rfl) rfl rfl (Nat.le_of_ble_eq_true rfl) h (fun v1 h => ?_)
  refine G.aload_n dX11_judge_4 rfl rfl ?_
  refine G.getR dX11_judge_5 fkX11_56 fr11_8 h (fun v2 h => ?_)
  refine G.callVi (ci := 1) [.ref v2] [] dX11_judge_8 lkX11_212 okX1_firstNotDone rfl (fun v hv => C_X1_firstNotDone hv) (Nat.le_of_ble_eq_true rfl) rfl rfl (Nat.le_of_ble_eq_true rfl) h (fun v3 h => ?_)
  exact G.iretW dX11_judge_11 rfl (rfl) h
-- OnlyUpward.cost()I
set_option maxRecDepth 100000 in
set_option maxHeartbeats 4000000 in
def F_X11_cost (n : Nat) (M : AM) (a0 : Nat) : Option (Int32 × AM) :=
  (rcv 11 M a0 (F_X11_planCourse n M a0)).bind fun v1 => (gI 1 4 v1.2 v1.1).bind fun v2 => some (v2, v1.2)
set_option maxRecDepth 100000 in
set_option maxHeartbeats 4000000 in
theorem C_X11_cost {n : Nat} {M : AM} {a0 : Nat} {o : (Int32 × AM)} (h : F_X11_cost n M a0 = some o) : Cn yX11_cost cX11_cost 1 (some .int) 7 [.ref a0] M (some (.int o.1)) o.2 := by
  unfold F_X11_cost at h
  refine Cn.of rfl (Nat.le_of_ble_eq_true rfl) ?_
  show G yX11_cost cX11_cost 1 (some .int) 7 0 [(0, .ref a0)] [] M (some (.int o.1)) o.2
  refine G.aload_n dX11_cost_0 rfl rfl ?_
  refine G.callVr (ci := 11) [] [] dX11_cost_1 lkX11_189 okX11_planCourse rfl (fun v hv => C_X11_planCourse hv) (Nat.le_of_ble_eq_true rfl) rfl rfl (Nat.le_of_ble_eq_true rfl) h (fun v1 h => ?_)
  refine G.getI dX11_cost_4 fkX11_216 fr1_4 h (fun v2 h => ?_)
  exact G.iretW dX11_cost_7 rfl (rfl) h
-- OnlyUpward.isHourOrEnd(I)Z
set_option maxRecDepth 100000 in
set_option maxHeartbeats 4000000 in
def F_X11_isHourOrEnd (n : Nat) (M : AM) (a0 : Int32) : Option Int32 :=
  if a0 < 0 then some (0 : Int32) else if (24 : Int32) < a0 then some (0 : Int32) else some (1 : Int32)
set_option maxRecDepth 100000 in
set_option maxHeartbeats 4000000 in
theorem C_X11_isHourOrEnd {n : Nat} {M : AM} {a0 : Int32} {o : Int32} (h : F_X11_isHourOrEnd n M a0 = some o) : Cn yX11_isHourOrEnd cX11_isHourOrEnd 1 (some .boolean) 0 [.int a0] M (some (.int o)) M := by
  unfold F_X11_isHourOrEnd at h
  refine Cn.of rfl (Nat.le_of_ble_eq_true rfl) ?_
  show G yX11_isHourOrEnd cX11_isHourOrEnd 1 (some .boolean) 0 0 [(0, .int a0)] [] M (some (.int o)) M
  refine G.iload_n dX11_isHourOrEnd_0 rfl rfl ?_
  refine G.if_lt 14 dX11_isHourOrEnd_1 (by decide) h (fun c1 h => ?_) (fun c1 h => ?_)
  · refine G.iconst (0 : Int32) dX11_isHourOrEnd_14 ki_0 ?_
    exact G.iret dX11_isHourOrEnd_15 rfl (by decide) h
  · refine G.iload_n dX11_isHourOrEnd_4 rfl rfl ?_
    refine G.bipush (24 : Int32) dX11_isHourOrEnd_5 kb_24 ?_
    refine G.icmp_gt 14 dX11_isHourOrEnd_7 (by decide) h (fun c2 h => ?_) (fun c2 h => ?_)
    · refine G.iconst (0 : Int32) dX11_isHourOrEnd_14 ki_0 ?_
      exact G.iret dX11_isHourOrEnd_15 rfl (by decide) h
    · refine G.iconst (1 : Int32) dX11_isHourOrEnd_10 ki_1 ?_
      refine G.goto 15 dX11_isHourOrEnd_11 (by decide) ?_
      exact G.iret dX11_isHourOrEnd_15 rfl (by decide) h
-- OnlyUpward$Knowledge.thingsOf(II)I
set_option maxRecDepth 100000 in
set_option maxHeartbeats 4000000 in
def F_X3_thingsOf (n : Nat) (M : AM) (a0 : Nat) (a1 : Int32) (a2 : Int32) : Option Int32 :=
  (iter (fun (s1 : Int32 × Int32) => if (6 : Int32) ≤ s1.2 then some (.inr s1.1) else (rcv 3 M a0 (F_X3_has n M a0 a1 s1.2 a2)).bind fun v3 => jn (fun (u4 : Int32) => some (.inl (u4, (s1.2 + (1 : Int32))))) fun j5 => if v3 = 0 then j5 s1.1 else j5 (s1.1 ||| ((1 : Int32) <<< (s1.2 &&& 31)))) n ((0 : Int32), (0 : Int32))).bind fun (e1 : Int32) => some e1
set_option maxRecDepth 100000 in
set_option maxHeartbeats 4000000 in
theorem C_X3_thingsOf {n : Nat} {M : AM} {a0 : Nat} {a1 : Int32} {a2 : Int32} {o : Int32} (h : F_X3_thingsOf n M a0 a1 a2 = some o) : Cn yX3_thingsOf cX3_thingsOf 5 (some .int) 2 [.ref a0, .int a1, .int a2] M (some (.int o)) M := by
  unfold F_X3_thingsOf at h
  refine Cn.of rfl (Nat.le_of_ble_eq_true rfl) ?_
  show G yX3_thingsOf cX3_thingsOf 5 (some .int) 2 0 [(0, .ref a0), (1, .int a1), (2, .int a2)] [] M (some (.int o)) M
  refine G.iconst (0 : Int32) dX3_thingsOf_0 ki_0 ?_
  refine G.istore_n (lv' := [(3, .int (0 : Int32)), (0, .ref a0), (1, .int a1), (2, .int a2)]) dX3_thingsOf_1 rfl (Nat.le_of_ble_eq_true rfl) rfl ?_
  refine G.iconst (0 : Int32) dX3_thingsOf_2 ki_0 ?_
  refine G.istore (lv' := [(4, .int (0 : Int32)), (3, .int (0 : Int32)), (0, .ref a0), (1, .int a1), (2, .int a2)]) dX3_thingsOf_3 (Nat.le_of_ble_eq_true rfl) rfl ?_
  refine G.sub (lv' := [(0, .ref a0), (1, .int a1), (2, .int a2), (3, .int (0 : Int32)), (4, .int (0 : Int32))]) [2, 3, 4, 1, 0] rfl ?_
  refine loopE (fun (s1 : Int32 × Int32) => G yX3_thingsOf cX3_thingsOf 5 (some .int) 2 5 [(0, .ref a0), (1, .int a1), (2, .int a2), (3, .int s1.1), (4, .int s1.2)] [] M (some (.int o)) M) (fun (e1 : Int32) => G yX3_thingsOf cX3_thingsOf 5 (some .int) 2 36 [(3, .int e1)] [] M (some (.int o)) M) h ?_ ?_
  · intro e1 h
    show G yX3_thingsOf cX3_thingsOf 5 (some .int) 2 36 [(3, .int e1)] [] M (some (.int o)) M
    refine G.iload_n dX3_thingsOf_36 rfl rfl ?_
    exact G.iret dX3_thingsOf_37 rfl (rfl) h
  · intro s1 x1 h K1
    show G yX3_thingsOf cX3_thingsOf 5 (some .int) 2 5 [(0, .ref a0), (1, .int a1), (2, .int a2), (3, .int s1.1), (4, .int s1.2)] [] M (some (.int o)) M
    refine G.iload dX3_thingsOf_5 rfl ?_
    refine G.bipush (6 : Int32) dX3_thingsOf_7 kb_6 ?_
    refine G.icmp_ge 36 dX3_thingsOf_9 (by decide) h (fun c2 h => ?_) (fun c2 h => ?_)
    · refine G.sub (lv' := [(3, .int s1.1)]) [3] rfl ?_
      have h := leafR' h K1
      exact h
    · refine G.aload_n dX3_thingsOf_12 rfl rfl ?_
      refine G.iload_n dX3_thingsOf_13 rfl rfl ?_
      refine G.iload dX3_thingsOf_14 rfl ?_
      refine G.iload_n dX3_thingsOf_16 rfl rfl ?_
      refine G.callVi (ci := 3) [.int a1, .int s1.2, .int a2] [] dX3_thingsOf_17 lkX3_28 okX3_has rfl (fun v hv => C_X3_has hv) (Nat.le_of_ble_eq_true rfl) rfl rfl (Nat.le_of_ble_eq_true rfl) h (fun v3 h => ?_)
      refine jn_elim (fun j5 => ∀ (u4 : Int32), j5 u4 = some x1 → G yX3_thingsOf cX3_thingsOf 5 (some .int) 2 30 [(0, .ref a0), (1, .int a1), (2, .int a2), (3, .int u4), (4, .int s1.2)] [] M (some (.int o)) M) h ?_ ?_
      · intro u4 h
        refine G.iinc s1.2 (w := (s1.2 + (1 : Int32))) (lv' := [(4, .int (s1.2 + (1 : Int32))), (0, .ref a0), (1, .int a1), (2, .int a2), (3, .int u4)]) dX3_thingsOf_30 rfl rfl (Nat.le_of_ble_eq_true rfl) rfl ?_
        refine G.goto 5 dX3_thingsOf_33 (by decide) ?_
        refine G.sub (lv' := [(0, .ref a0), (1, .int a1), (2, .int a2), (3, .int u4), (4, .int (s1.2 + (1 : Int32)))]) [1, 2, 3, 4, 0] rfl ?_
        have h := leafL' h K1
        exact h
      · intro j5 Jj5 h
        refine G.if_eq 30 dX3_thingsOf_20 (by decide) h (fun c6 h => ?_) (fun c6 h => ?_)
        · refine G.sub (lv' := [(0, .ref a0), (1, .int a1), (2, .int a2), (3, .int s1.1), (4, .int s1.2)]) [0, 1, 2, 3, 4] rfl ?_
          exact Jj5 _ h
        · refine G.iload_n dX3_thingsOf_23 rfl rfl ?_
          refine G.iconst (1 : Int32) dX3_thingsOf_24 ki_1 ?_
          refine G.iload dX3_thingsOf_25 rfl ?_
          refine G.ishl dX3_thingsOf_27 ?_
          refine G.ior dX3_thingsOf_28 ?_
          refine G.istore_n (lv' := [(3, .int (s1.1 ||| ((1 : Int32) <<< (s1.2 &&& 31)))), (0, .ref a0), (1, .int a1), (2, .int a2), (4, .int s1.2)]) dX3_thingsOf_29 rfl (Nat.le_of_ble_eq_true rfl) rfl ?_
          refine G.sub (lv' := [(0, .ref a0), (1, .int a1), (2, .int a2), (3, .int (s1.1 ||| ((1 : Int32) <<< (s1.2 &&& 31)))), (4, .int s1.2)]) [1, 2, 3, 0, 4] rfl ?_
          exact Jj5 _ h
