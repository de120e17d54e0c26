-- OnlyUpward.kept(IIII)I
set_option maxRecDepth 100000 in
set_option maxHeartbeats 4000000 in
def F_X11_kept (n : Nat) (M : AM) (a0 : Nat) (a1 : Int32) (a2 : Int32) (a3 : Int32) (a4 : Int32) : Option (Int32 × AM) :=
  if a2 < (1 : Int32) then some ((-1 : Int32), M) else if (50 : Int32) < a2 then some ((-1 : Int32), M) else (F_X11_isFrail n M a3).bind fun v3 => if v3 = 0 then some ((-1 : Int32), M) else (rcv 11 M a0 (F_X11_isOne n M a0 (2 : Int32) a4)).bind fun v5 => if v5 = 0 then some ((-1 : Int32), M) else (iter (fun (s7 : Int32 × Int32 × AM) => if a2 ≤ s7.2.1 then some (.inr (s7.1, s7.2.2)) else (rcv 11 s7.2.2 a0 (F_X11_goDay n s7.2.2 a0 (a1 + s7.2.1) a3)).bind fun M10 => (gR 11 11 M10 a0).bind fun v11 => (gR 11 6 M10 a0).bind fun v12 => (rcv 1 M10 v11 (F_X1_goneThings n M10 v11 v12)).bind fun v13 => (F_X11_hasBit n M10 v13 a4).bind fun v14 => jn (fun (u15 : Int32) => some (.inl (u15, (s7.2.1 + (1 : Int32)), M10))) fun j16 => if v14 = 0 then j16 (s7.1 + (1 : Int32)) else j16 s7.1) n ((0 : Int32), (0 : Int32), M)).bind fun (e7 : Int32 × AM) => some (e7.1, e7.2)
set_option maxRecDepth 100000 in
set_option maxHeartbeats 4000000 in
theorem C_X11_kept {n : Nat} {M : AM} {a0 : Nat} {a1 : Int32} {a2 : Int32} {a3 : Int32} {a4 : Int32} {o : (Int32 × AM)} (h : F_X11_kept n M a0 a1 a2 a3 a4 = some o) : Cn yX11_kept cX11_kept 7 (some .int) 7 [.ref a0, .int a1, .int a2, .int a3, .int a4] M (some (.int o.1)) o.2 := by
  unfold F_X11_kept at h
  refine Cn.of rfl (Nat.le_of_ble_eq_true rfl) ?_
  show G yX11_kept cX11_kept 7 (some .int) 7 0 [(0, .ref a0), (1, .int a1), (2, .int a2), (3, .int a3), (4, .int a4)] [] M (some (.int o.1)) o.2
  refine G.iload_n dX11_kept_0 rfl rfl ?_
  refine G.iconst (1 : Int32) dX11_kept_1 ki_1 ?_
  refine G.icmp_lt 28 dX11_kept_2 (by decide) h (fun c1 h => ?_) (fun c1 h => ?_)
  · refine G.iconst (-1 : Int32) dX11_kept_28 ki_m1 ?_
    exact G.iretW dX11_kept_29 rfl (rfl) h
  · refine G.iload_n dX11_kept_5 rfl rfl ?_
    refine G.bipush (50 : Int32) dX11_kept_6 kb_50 ?_
    refine G.icmp_gt 28 dX11_kept_8 (by decide) h (fun c2 h => ?_) (fun c2 h => ?_)
    · refine G.iconst (-1 : Int32) dX11_kept_28 ki_m1 ?_
      exact G.iretW dX11_kept_29 rfl (rfl) h
    · refine G.iload_n dX11_kept_11 rfl rfl ?_
      refine G.callSi [.int a3] [] dX11_kept_12 lkX11_345 okX11_isFrail (fun v hv => C_X11_isFrail hv) (Nat.le_of_ble_eq_true rfl) rfl rfl (Nat.le_of_ble_eq_true rfl) h (fun v3 h => ?_)
      refine G.if_eq 28 dX11_kept_15 (by decide) h (fun c4 h => ?_) (fun c4 h => ?_)
      · refine G.iconst (-1 : Int32) dX11_kept_28 ki_m1 ?_
        exact G.iretW dX11_kept_29 rfl (rfl) h
      · refine G.aload_n dX11_kept_18 rfl rfl ?_
        refine G.iconst (2 : Int32) dX11_kept_19 ki_2 ?_
        refine G.iload dX11_kept_20 rfl ?_
        refine G.callVi (ci := 11) [.int (2 : Int32), .int a4] [] dX11_kept_22 lkX11_141 okX11_isOne rfl (fun v hv => C_X11_isOne hv) (Nat.le_of_ble_eq_true rfl) rfl rfl (Nat.le_of_ble_eq_true rfl) h (fun v5 h => ?_)
        refine G.if_ne 30 dX11_kept_25 (by decide) h (fun c6 h => ?_) (fun c6 h => ?_)
        · refine G.iconst (-1 : Int32) dX11_kept_28 ki_m1 ?_
          exact G.iretW dX11_kept_29 rfl (rfl) h
        · refine G.iconst (0 : Int32) dX11_kept_30 ki_0 ?_
          refine G.istore (lv' := [(5, .int (0 : Int32)), (0, .ref a0), (1, .int a1), (2, .int a2), (3, .int a3), (4, .int a4)]) dX11_kept_31 (Nat.le_of_ble_eq_true rfl) rfl ?_
          refine G.iconst (0 : Int32) dX11_kept_33 ki_0 ?_
          refine G.istore (lv' := [(6, .int (0 : Int32)), (5, .int (0 : Int32)), (0, .ref a0), (1, .int a1), (2, .int a2), (3, .int a3), (4, .int a4)]) dX11_kept_34 (Nat.le_of_ble_eq_true rfl) rfl ?_
          refine G.sub (lv' := [(0, .ref a0), (1, .int a1), (2, .int a2), (3, .int a3), (4, .int a4), (5, .int (0 : Int32)), (6, .int (0 : Int32))]) [2, 3, 4, 5, 6, 1, 0] rfl ?_
          refine loopE (fun (s7 : Int32 × Int32 × AM) => G yX11_kept cX11_kept 7 (some .int) 7 36 [(0, .ref a0), (1, .int a1), (2, .int a2), (3, .int a3), (4, .int a4), (5, .int s7.1), (6, .int s7.2.1)] [] s7.2.2 (some (.int o.1)) o.2) (fun (e7 : Int32 × AM) => G yX11_kept cX11_kept 7 (some .int) 7 79 [(5, .int e7.1)] [] e7.2 (some (.int o.1)) o.2) h ?_ ?_
          · intro e7 h
            show G yX11_kept cX11_kept 7 (some .int) 7 79 [(5, .int e7.1)] [] e7.2 (some (.int o.1)) o.2
            refine G.iload dX11_kept_79 rfl ?_
            exact G.iretW dX11_kept_81 rfl (rfl) h
          · intro s7 x7 h K7
            show G yX11_kept cX11_kept 7 (some .int) 7 36 [(0, .ref a0), (1, .int a1), (2, .int a2), (3, .int a3), (4, .int a4), (5, .int s7.1), (6, .int s7.2.1)] [] s7.2.2 (some (.int o.1)) o.2
            refine G.iload dX11_kept_36 rfl ?_
            refine G.iload_n dX11_kept_38 rfl rfl ?_
            refine G.icmp_ge 79 dX11_kept_39 (by decide) h (fun c8 h => ?_) (fun c8 h => ?_)
            · refine G.sub (lv' := [(5, .int s7.1)]) [5] rfl ?_
              have h := leafR' h K7
              exact h
            · refine G.aload_n dX11_kept_42 rfl rfl ?_
              refine G.iload_n dX11_kept_43 rfl rfl ?_
              refine G.iload dX11_kept_44 rfl ?_
              refine G.iadd dX11_kept_46 ?_
              refine G.iload_n dX11_kept_47 rfl rfl ?_
              refine G.callVv (ci := 11) [.int (a1 + s7.2.1), .int a3] [] dX11_kept_48 lkX11_348 okX11_goDay rfl (fun v hv => C_X11_goDay hv) (Nat.le_of_ble_eq_true rfl) rfl rfl (Nat.le_of_ble_eq_true rfl) h (fun M10 h => ?_)
              refine G.aload_n dX11_kept_51 rfl rfl ?_
              refine G.getR dX11_kept_52 fkX11_71 fr11_11 h (fun v11 h => ?_)
              refine G.aload_n dX11_kept_55 rfl rfl ?_
              refine G.getR dX11_kept_56 fkX11_46 fr11_6 h (fun v12 h => ?_)
              refine G.callVi (ci := 1) [.ref v12] [] dX11_kept_59 lkX11_355 okX1_goneThings rfl (fun v hv => C_X1_goneThings hv) (Nat.le_of_ble_eq_true rfl) rfl rfl (Nat.le_of_ble_eq_true rfl) h (fun v13 h => ?_)
              refine G.iload dX11_kept_62 rfl ?_
              refine G.callSi [.int v13, .int a4] [] dX11_kept_64 lkX11_248 okX11_hasBit (fun v hv => C_X11_hasBit hv) (Nat.le_of_ble_eq_true rfl) rfl rfl (Nat.le_of_ble_eq_true rfl) h (fun v14 h => ?_)
              refine jn_elim (fun j16 => ∀ (u15 : Int32), j16 u15 = some x7 → G yX11_kept cX11_kept 7 (some .int) 7 73 [(0, .ref a0), (1, .int a1), (2, .int a2), (3, .int a3), (4, .int a4), (5, .int u15), (6, .int s7.2.1)] [] M10 (some (.int o.1)) o.2) h ?_ ?_
              · intro u15 h
                refine G.iinc s7.2.1 (w := (s7.2.1 + (1 : Int32))) (lv' := [(6, .int (s7.2.1 + (1 : Int32))), (0, .ref a0), (1, .int a1), (2, .int a2), (3, .int a3), (4, .int a4), (5, .int u15)]) dX11_kept_73 rfl rfl (Nat.le_of_ble_eq_true rfl) rfl ?_
                refine G.goto 36 dX11_kept_76 (by decide) ?_
                refine G.sub (lv' := [(0, .ref a0), (1, .int a1), (2, .int a2), (3, .int a3), (4, .int a4), (5, .int u15), (6, .int (s7.2.1 + (1 : Int32)))]) [1, 2, 3, 4, 5, 6, 0] rfl ?_
                have h := leafL' h K7
                exact h
              · intro j16 Jj16 h
                refine G.if_ne 73 dX11_kept_67 (by decide) h (fun c17 h => ?_) (fun c17 h => ?_)
                · refine G.iinc s7.1 (w := (s7.1 + (1 : Int32))) (lv' := [(5, .int (s7.1 + (1 : Int32))), (0, .ref a0), (1, .int a1), (2, .int a2), (3, .int a3), (4, .int a4), (6, .int s7.2.1)]) dX11_kept_70 rfl rfl (Nat.le_of_ble_eq_true rfl) rfl ?_
                  refine G.sub (lv' := [(0, .ref a0), (1, .int a1), (2, .int a2), (3, .int a3), (4, .int a4), (5, .int (s7.1 + (1 : Int32))), (6, .int s7.2.1)]) [1, 2, 3, 4, 5, 0, 6] rfl ?_
                  exact Jj16 _ h
                · refine G.sub (lv' := [(0, .ref a0), (1, .int a1), (2, .int a2), (3, .int a3), (4, .int a4), (5, .int s7.1), (6, .int s7.2.1)]) [0, 1, 2, 3, 4, 5, 6] rfl ?_
                  exact Jj16 _ h
-- OnlyUpward$Plan.keep(I)Z
set_option maxRecDepth 100000 in
set_option maxHeartbeats 4000000 in
def F_X5_keep (n : Nat) (M : AM) (a0 : Nat) (a1 : Int32) : Option (Int32 × AM) :=
  if a1 < 0 then some ((0 : Int32), M) else if a1 < (3 : Int32) then (gR 5 3 M a0).bind fun v3 => (gI 5 1 M a0).bind fun v4 => (wrI M v3 a1 v4).bind fun M5 => (gR 5 0 M5 a0).bind fun v6 => (gR 5 2 M5 a0).bind fun v7 => (gR 5 0 M5 a0).bind fun v8 => (aln M5 v8).bind fun v9 => (gR 5 0 M5 a0).bind fun v10 => (aln M5 v10).bind fun v11 => (cpI M5 v6 (0 : Int32) v7 (a1 * v9) v11).bind fun M12 => some ((1 : Int32), M12) else some ((0 : Int32), M)
set_option maxRecDepth 100000 in
set_option maxHeartbeats 4000000 in
theorem C_X5_keep {n : Nat} {M : AM} {a0 : Nat} {a1 : Int32} {o : (Int32 × AM)} (h : F_X5_keep n M a0 a1 = some o) : Cn yX5_keep cX5_keep 2 (some .boolean) 1 [.ref a0, .int a1] M (some (.int o.1)) o.2 := by
  unfold F_X5_keep at h
  refine Cn.of rfl (Nat.le_of_ble_eq_true rfl) ?_
  show G yX5_keep cX5_keep 2 (some .boolean) 1 0 [(0, .ref a0), (1, .int a1)] [] M (some (.int o.1)) o.2
  refine G.iload_n dX5_keep_0 rfl rfl ?_
  refine G.if_lt 9 dX5_keep_1 (by decide) h (fun c1 h => ?_) (fun c1 h => ?_)
  · refine G.iconst (0 : Int32) dX5_keep_9 ki_0 ?_
    exact G.iretW dX5_keep_10 rfl (by decide) h
  · refine G.iload_n dX5_keep_4 rfl rfl ?_
    refine G.iconst (3 : Int32) dX5_keep_5 ki_3 ?_
    refine G.icmp_lt 11 dX5_keep_6 (by decide) h (fun c2 h => ?_) (fun c2 h => ?_)
    · refine G.aload_n dX5_keep_11 rfl rfl ?_
      refine G.getR dX5_keep_12 fkX5_22 fr5_3 h (fun v3 h => ?_)
      refine G.iload_n dX5_keep_15 rfl rfl ?_
      refine G.aload_n dX5_keep_16 rfl rfl ?_
      refine G.getI dX5_keep_17 fkX5_15 fr5_1 h (fun v4 h => ?_)
      refine G.iast dX5_keep_20 h (fun M5 h => ?_)
      refine G.aload_n dX5_keep_21 rfl rfl ?_
      refine G.getR dX5_keep_22 fkX5_11 fr5_0 h (fun v6 h => ?_)
      refine G.iconst (0 : Int32) dX5_keep_25 ki_0 ?_
      refine G.aload_n dX5_keep_26 rfl rfl ?_
      refine G.getR dX5_keep_27 fkX5_19 fr5_2 h (fun v7 h => ?_)
      refine G.iload_n dX5_keep_30 rfl rfl ?_
      refine G.aload_n dX5_keep_31 rfl rfl ?_
      refine G.getR dX5_keep_32 fkX5_11 fr5_0 h (fun v8 h => ?_)
      refine G.alen dX5_keep_35 h (fun v9 h => ?_)
      refine G.imul dX5_keep_36 ?_
      refine G.aload_n dX5_keep_37 rfl rfl ?_
      refine G.getR dX5_keep_38 fkX5_11 fr5_0 h (fun v10 h => ?_)
      refine G.alen dX5_keep_41 h (fun v11 h => ?_)
      refine G.copy dX5_keep_42 laX5_34 ac_1 ac_2 ac_3 (Nat.le_of_ble_eq_true rfl) (Nat.le_of_ble_eq_true rfl) h (fun M12 h => ?_)
      refine G.iconst (1 : Int32) dX5_keep_45 ki_1 ?_
      exact G.iretW dX5_keep_46 rfl (by decide) h
    · refine G.iconst (0 : Int32) dX5_keep_9 ki_0 ?_
      exact G.iretW dX5_keep_10 rfl (by decide) h
-- OnlyUpward.hold(I)Z
set_option maxRecDepth 100000 in
set_option maxHeartbeats 4000000 in
def F_X11_hold (n : Nat) (M : AM) (a0 : Nat) (a1 : Int32) : Option (Int32 × AM) :=
  (gR 11 8 M a0).bind fun v1 => (rcv 5 M v1 (F_X5_keep n M v1 a1)).bind fun v2 => gd (narrow .boolean (.int v2.1) = .int v2.1) (some (v2.1, v2.2))
set_option maxRecDepth 100000 in
set_option maxHeartbeats 4000000 in
theorem C_X11_hold {n : Nat} {M : AM} {a0 : Nat} {a1 : Int32} {o : (Int32 × AM)} (h : F_X11_hold n M a0 a1 = some o) : Cn yX11_hold cX11_hold 2 (some .boolean) 2 [.ref a0, .int a1] M (some (.int o.1)) o.2 := by
  unfold F_X11_hold at h
  refine Cn.of rfl (Nat.le_of_ble_eq_true rfl) ?_
  show G yX11_hold cX11_hold 2 (some .boolean) 2 0 [(0, .ref a0), (1, .int a1)] [] M (some (.int o.1)) o.2
  refine G.aload_n dX11_hold_0 rfl rfl ?_
  refine G.getR dX11_hold_1 fkX11_56 fr11_8 h (fun v1 h => ?_)
  refine G.iload_n dX11_hold_4 rfl rfl ?_
  refine G.callVi (ci := 5) [.int a1] [] dX11_hold_5 lkX11_199 okX5_keep rfl (fun v hv => C_X5_keep hv) (Nat.le_of_ble_eq_true rfl) rfl rfl (Nat.le_of_ble_eq_true rfl) h (fun v2 h => ?_)
  refine gd_elim h (fun c3 h => ?_)
  exact G.iretW dX11_hold_8 rfl (c3) h
-- OnlyUpward$Plan.bring(I)Z
set_option maxRecDepth 100000 in
set_option maxHeartbeats 4000000 in
def F_X5_bring (n : Nat) (M : AM) (a0 : Nat) (a1 : Int32) : Option (Int32 × AM) :=
  if a1 < 0 then some ((0 : Int32), M) else if (3 : Int32) ≤ a1 then some ((0 : Int32), M) else (gR 5 3 M a0).bind fun v3 => (rdI M v3 a1).bind fun v4 => if v4 = (-1 : Int32) then some ((0 : Int32), M) else (gR 5 3 M a0).bind fun v6 => (rdI M v6 a1).bind fun v7 => (pI 5 1 M a0 v7).bind fun M8 => (gR 5 2 M8 a0).bind fun v9 => (gR 5 0 M8 a0).bind fun v10 => (aln M8 v10).bind fun v11 => (gR 5 0 M8 a0).bind fun v12 => (gR 5 0 M8 a0).bind fun v13 => (aln M8 v13).bind fun v14 => (cpI M8 v9 (a1 * v11) v12 (0 : Int32) v14).bind fun M15 => some ((1 : Int32), M15)
set_option maxRecDepth 100000 in
set_option maxHeartbeats 4000000 in
theorem C_X5_bring {n : Nat} {M : AM} {a0 : Nat} {a1 : Int32} {o : (Int32 × AM)} (h : F_X5_bring n M a0 a1 = some o) : Cn yX5_bring cX5_bring 2 (some .boolean) 1 [.ref a0, .int a1] M (some (.int o.1)) o.2 := by
  unfold F_X5_bring at h
  refine Cn.of rfl (Nat.le_of_ble_eq_true rfl) ?_
  show G yX5_bring cX5_bring 2 (some .boolean) 1 0 [(0, .ref a0), (1, .int a1)] [] M (some (.int o.1)) o.2
  refine G.iload_n dX5_bring_0 rfl rfl ?_
  refine G.if_lt 19 dX5_bring_1 (by decide) h (fun c1 h => ?_) (fun c1 h => ?_)
  · refine G.iconst (0 : Int32) dX5_bring_19 ki_0 ?_
    exact G.iretW dX5_bring_20 rfl (by decide) h
  · refine G.iload_n dX5_bring_4 rfl rfl ?_
    refine G.iconst (3 : Int32) dX5_bring_5 ki_3 ?_
    refine G.icmp_ge 19 dX5_bring_6 (by decide) h (fun c2 h => ?_) (fun c2 h => ?_)
    · refine G.iconst (0 : Int32) dX5_bring_19 ki_0 ?_
      exact G.iretW dX5_bring_20 rfl (by decide) h
    · refine G.aload_n dX5_bring_9 rfl rfl ?_
      refine G.getR dX5_bring_10 fkX5_22 fr5_3 h (fun v3 h => ?_)
      refine G.iload_n dX5_bring_13 rfl rfl ?_
      refine G.iald dX5_bring_14 h (fun v4 h => ?_)
      refine G.iconst (-1 : Int32) dX5_bring_15 ki_m1 ?_
      refine G.icmp_ne 21 dX5_bring_16 (by decide) h (fun c5 h => ?_) (fun c5 h => ?_)
      · refine G.iconst (0 : Int32) dX5_bring_19 ki_0 ?_
        exact G.iretW dX5_bring_20 rfl (by decide) h
      · refine G.aload_n dX5_bring_21 rfl rfl ?_
        refine G.aload_n dX5_bring_22 rfl rfl ?_
        refine G.getR dX5_bring_23 fkX5_22 fr5_3 h (fun v6 h => ?_)
        refine G.iload_n dX5_bring_26 rfl rfl ?_
        refine G.iald dX5_bring_27 h (fun v7 h => ?_)
        refine G.putI dX5_bring_28 fkX5_15 nf5_1 ft5_1 h (fun M8 h => ?_)
        refine G.aload_n dX5_bring_31 rfl rfl ?_
        refine G.getR dX5_bring_32 fkX5_19 fr5_2 h (fun v9 h => ?_)
        refine G.iload_n dX5_bring_35 rfl rfl ?_
        refine G.aload_n dX5_bring_36 rfl rfl ?_
        refine G.getR dX5_bring_37 fkX5_11 fr5_0 h (fun v10 h => ?_)
        refine G.alen dX5_bring_40 h (fun v11 h => ?_)
        refine G.imul dX5_bring_41 ?_
        refine G.aload_n dX5_bring_42 rfl rfl ?_
        refine G.getR dX5_bring_43 fkX5_11 fr5_0 h (fun v12 h => ?_)
        refine G.iconst (0 : Int32) dX5_bring_46 ki_0 ?_
        refine G.aload_n dX5_bring_47 rfl rfl ?_
        refine G.getR dX5_bring_48 fkX5_11 fr5_0 h (fun v13 h => ?_)
        refine G.alen dX5_bring_51 h (fun v14 h => ?_)
        refine G.copy dX5_bring_52 laX5_34 ac_1 ac_2 ac_3 (Nat.le_of_ble_eq_true rfl) (Nat.le_of_ble_eq_true rfl) h (fun M15 h => ?_)
        refine G.iconst (1 : Int32) dX5_bring_55 ki_1 ?_
        exact G.iretW dX5_bring_56 rfl (by decide) h
-- OnlyUpward.restore(I)Z
set_option maxRecDepth 100000 in
set_option maxHeartbeats 4000000 in
def F_X11_restore (n : Nat) (M : AM) (a0 : Nat) (a1 : Int32) : Option (Int32 × AM) :=
  (pZ 11 10 M a0 (0 : Int32)).bind fun M1 => (gR 11 8 M1 a0).bind fun v2 => (rcv 5 M1 v2 (F_X5_bring n M1 v2 a1)).bind fun v3 => gd (narrow .boolean (.int v3.1) = .int v3.1) (some (v3.1, v3.2))
set_option maxRecDepth 100000 in
set_option maxHeartbeats 4000000 in
theorem C_X11_restore {n : Nat} {M : AM} {a0 : Nat} {a1 : Int32} {o : (Int32 × AM)} (h : F_X11_restore n M a0 a1 = some o) : Cn yX11_restore cX11_restore 2 (some .boolean) 2 [.ref a0, .int a1] M (some (.int o.1)) o.2 := by
  unfold F_X11_restore at h
  refine Cn.of rfl (Nat.le_of_ble_eq_true rfl) ?_
  show G yX11_restore cX11_restore 2 (some .boolean) 2 0 [(0, .ref a0), (1, .int a1)] [] M (some (.int o.1)) o.2
  refine G.aload_n dX11_restore_0 rfl rfl ?_
  refine G.iconst (0 : Int32) dX11_restore_1 ki_0 ?_
  refine G.putZ dX11_restore_2 fkX11_67 nf11_10 ft11_10 h (fun M1 h => ?_)
  refine G.aload_n dX11_restore_5 rfl rfl ?_
  refine G.getR dX11_restore_6 fkX11_56 fr11_8 h (fun v2 h => ?_)
  refine G.iload_n dX11_restore_9 rfl rfl ?_
  refine G.callVi (ci := 5) [.int a1] [] dX11_restore_10 lkX11_202 okX5_bring rfl (fun v hv => C_X5_bring hv) (Nat.le_of_ble_eq_true rfl) rfl rfl (Nat.le_of_ble_eq_true rfl) h (fun v3 h => ?_)
  refine gd_elim h (fun c4 h => ?_)
  exact G.iretW dX11_restore_13 rfl (c4) h
-- OnlyUpward$Plan.fullSlots()I
set_option maxRecDepth 100000 in
set_option maxHeartbeats 4000000 in
def F_X5_fullSlots (n : Nat) (M : AM) (a0 : Nat) : Option Int32 :=
  (iter (fun (s1 : Int32 × Int32) => if (3 : Int32) ≤ s1.2 then some (.inr s1.1) else (gR 5 3 M a0).bind fun v3 => (rdI M v3 s1.2).bind fun v4 => jn (fun (u5 : Int32) => some (.inl ((s1.1 + u5), (s1.2 + (1 : Int32))))) fun j6 => if v4 = (-1 : Int32) then j6 (0 : Int32) else j6 (1 : Int32)) n ((0 : Int32), (0 : Int32))).bind fun (e1 : Int32) => some e1
set_option maxRecDepth 100000 in
set_option maxHeartbeats 4000000 in
theorem C_X5_fullSlots {n : Nat} {M : AM} {a0 : Nat} {o : Int32} (h : F_X5_fullSlots n M a0 = some o) : Cn yX5_fullSlots cX5_fullSlots 3 (some .int) 0 [.ref a0] M (some (.int o)) M := by
  unfold F_X5_fullSlots at h
  refine Cn.of rfl (Nat.le_of_ble_eq_true rfl) ?_
  show G yX5_fullSlots cX5_fullSlots 3 (some .int) 0 0 [(0, .ref a0)] [] M (some (.int o)) M
  refine G.iconst (0 : Int32) dX5_fullSlots_0 ki_0 ?_
  refine G.istore_n (lv' := [(1, .int (0 : Int32)), (0, .ref a0)]) dX5_fullSlots_1 rfl (Nat.le_of_ble_eq_true rfl) rfl ?_
  refine G.iconst (0 : Int32) dX5_fullSlots_2 ki_0 ?_
  refine G.istore_n (lv' := [(2, .int (0 : Int32)), (1, .int (0 : Int32)), (0, .ref a0)]) dX5_fullSlots_3 rfl (Nat.le_of_ble_eq_true rfl) rfl ?_
  refine G.sub (lv' := [(0, .ref a0), (1, .int (0 : Int32)), (2, .int (0 : Int32))]) [2, 1, 0] rfl ?_
  refine loopE (fun (s1 : Int32 × Int32) => G yX5_fullSlots cX5_fullSlots 3 (some .int) 0 4 [(0, .ref a0), (1, .int s1.1), (2, .int s1.2)] [] M (some (.int o)) M) (fun (e1 : Int32) => G yX5_fullSlots cX5_fullSlots 3 (some .int) 0 33 [(1, .int e1)] [] M (some (.int o)) M) h ?_ ?_
  · intro e1 h
    show G yX5_fullSlots cX5_fullSlots 3 (some .int) 0 33 [(1, .int e1)] [] M (some (.int o)) M
    refine G.iload_n dX5_fullSlots_33 rfl rfl ?_
    exact G.iret dX5_fullSlots_34 rfl (rfl) h
  · intro s1 x1 h K1
    show G yX5_fullSlots cX5_fullSlots 3 (some .int) 0 4 [(0, .ref a0), (1, .int s1.1), (2, .int s1.2)] [] M (some (.int o)) M
    refine G.iload_n dX5_fullSlots_4 rfl rfl ?_
    refine G.iconst (3 : Int32) dX5_fullSlots_5 ki_3 ?_
    refine G.icmp_ge 33 dX5_fullSlots_6 (by decide) h (fun c2 h => ?_) (fun c2 h => ?_)
    · refine G.sub (lv' := [(1, .int s1.1)]) [1] rfl ?_
      have h := leafR' h K1
      exact h
    · refine G.iload_n dX5_fullSlots_9 rfl rfl ?_
      refine G.aload_n dX5_fullSlots_10 rfl rfl ?_
      refine G.getR dX5_fullSlots_11 fkX5_22 fr5_3 h (fun v3 h => ?_)
      refine G.iload_n dX5_fullSlots_14 rfl rfl ?_
      refine G.iald dX5_fullSlots_15 h (fun v4 h => ?_)
      refine G.iconst (-1 : Int32) dX5_fullSlots_16 ki_m1 ?_
      refine jn_elim (fun j6 => ∀ (u5 : Int32), j6 u5 = some x1 → G yX5_fullSlots cX5_fullSlots 3 (some .int) 0 25 [(0, .ref a0), (2, .int s1.2)] [.int u5, .int s1.1] M (some (.int o)) M) h ?_ ?_
      · intro u5 h
        refine G.iadd dX5_fullSlots_25 ?_
        refine G.istore_n (lv' := [(1, .int (s1.1 + u5)), (0, .ref a0), (2, .int s1.2)]) dX5_fullSlots_26 rfl (Nat.le_of_ble_eq_true rfl) rfl ?_
        refine G.iinc s1.2 (w := (s1.2 + (1 : Int32))) (lv' := [(2, .int (s1.2 + (1 : Int32))), (1, .int (s1.1 + u5)), (0, .ref a0)]) dX5_fullSlots_27 rfl rfl (Nat.le_of_ble_eq_true rfl) rfl ?_
        refine G.goto 4 dX5_fullSlots_30 (by decide) ?_
        refine G.sub (lv' := [(0, .ref a0), (1, .int (s1.1 + u5)), (2, .int (s1.2 + (1 : Int32)))]) [2, 1, 0] rfl ?_
        have h := leafL' h K1
        exact h
      · intro j6 Jj6 h
        refine G.icmp_ne 24 dX5_fullSlots_17 (by decide) h (fun c7 h => ?_) (fun c7 h => ?_)
        · refine G.iconst (0 : Int32) dX5_fullSlots_20 ki_0 ?_
          refine G.goto 25 dX5_fullSlots_21 (by decide) ?_
          refine G.sub (lv' := [(0, .ref a0), (2, .int s1.2)]) [0, 2] rfl ?_
          exact Jj6 _ h
        · refine G.iconst (1 : Int32) dX5_fullSlots_24 ki_1 ?_
          refine G.sub (lv' := [(0, .ref a0), (2, .int s1.2)]) [0, 2] rfl ?_
          exact Jj6 _ h
-- OnlyUpward.countOfOne(I)I
set_option maxRecDepth 100000 in
set_option maxHeartbeats 4000000 in
def F_X11_countOfOne (n : Nat) (M : AM) (a0 : Nat) (a1 : Int32) : Option Int32 :=
  jn (jn (if a1 < (40 : Int32) then some (-1 : Int32) else (rcv 11 M a0 (F_X11_isOne n M a0 (7 : Int32) (a1 - (40 : Int32)))).bind fun v2 => if v2 = 0 then some (-1 : Int32) else (gR 11 6 M a0).bind fun v4 => (gR 10 10 M v4).bind fun v5 => (rdI M v5 (a1 - (40 : Int32))).bind fun v6 => some v6) fun j7 => if a1 < (30 : Int32) then j7 else (rcv 11 M a0 (F_X11_isOne n M a0 (8 : Int32) (a1 - (30 : Int32)))).bind fun v9 => if v9 = 0 then j7 else (gR 11 6 M a0).bind fun v11 => (gR 10 11 M v11).bind fun v12 => (rdI M v12 (a1 - (30 : Int32))).bind fun v13 => (F_J6_bitCount_0f7a4 n M v13).bind fun v14 => some v14) fun j15 => if a1 < (20 : Int32) then j15 else (rcv 11 M a0 (F_X11_isOne n M a0 (2 : Int32) (a1 - (20 : Int32)))).bind fun v17 => if v17 = 0 then j15 else (gR 11 6 M a0).bind fun v19 => (gR 10 3 M v19).bind fun v20 => (rdI M v20 (a1 - (20 : Int32))).bind fun v21 => some v21
set_option maxRecDepth 100000 in
set_option maxHeartbeats 4000000 in
theorem C_X11_countOfOne {n : Nat} {M : AM} {a0 : Nat} {a1 : Int32} {o : Int32} (h : F_X11_countOfOne n M a0 a1 = some o) : Cn yX11_countOfOne cX11_countOfOne 2 (some .int) 1 [.ref a0, .int a1] M (some (.int o)) M := by
  unfold F_X11_countOfOne at h
  refine Cn.of rfl (Nat.le_of_ble_eq_true rfl) ?_
  show G yX11_countOfOne cX11_countOfOne 2 (some .int) 1 0 [(0, .ref a0), (1, .int a1)] [] M (some (.int o)) M
  refine G.iload_n dX11_countOfOne_0 rfl rfl ?_
  refine G.bipush (20 : Int32) dX11_countOfOne_1 kb_20 ?_
  refine jn_elim (fun j15 => j15 = some o → G yX11_countOfOne cX11_countOfOne 2 (some .int) 1 31 [(0, .ref a0), (1, .int a1)] [] M (some (.int o)) M) h ?_ ?_
  · intro h
    refine G.iload_n dX11_countOfOne_31 rfl rfl ?_
    refine G.bipush (30 : Int32) dX11_countOfOne_32 kb_30 ?_
    refine jn_elim (fun j7 => j7 = some o → G yX11_countOfOne cX11_countOfOne 2 (some .int) 1 66 [(0, .ref a0), (1, .int a1)] [] M (some (.int o)) M) h ?_ ?_
    · intro h
      refine G.iload_n dX11_countOfOne_66 rfl rfl ?_
      refine G.bipush (40 : Int32) dX11_countOfOne_67 kb_40 ?_
      refine G.icmp_lt 98 dX11_countOfOne_69 (by decide) h (fun c1 h => ?_) (fun c1 h => ?_)
      · refine G.iconst (-1 : Int32) dX11_countOfOne_98 ki_m1 ?_
        exact G.iret dX11_countOfOne_99 rfl (rfl) h
      · refine G.aload_n dX11_countOfOne_72 rfl rfl ?_
        refine G.bipush (7 : Int32) dX11_countOfOne_73 kb_7 ?_
        refine G.iload_n dX11_countOfOne_75 rfl rfl ?_
        refine G.bipush (40 : Int32) dX11_countOfOne_76 kb_40 ?_
        refine G.isub dX11_countOfOne_78 ?_
        refine G.callVi (ci := 11) [.int (7 : Int32), .int (a1 - (40 : Int32))] [] dX11_countOfOne_79 lkX11_141 okX11_isOne rfl (fun v hv => C_X11_isOne hv) (Nat.le_of_ble_eq_true rfl) rfl rfl (Nat.le_of_ble_eq_true rfl) h (fun v2 h => ?_)
        refine G.if_eq 98 dX11_countOfOne_82 (by decide) h (fun c3 h => ?_) (fun c3 h => ?_)
        · refine G.iconst (-1 : Int32) dX11_countOfOne_98 ki_m1 ?_
          exact G.iret dX11_countOfOne_99 rfl (rfl) h
        · refine G.aload_n dX11_countOfOne_85 rfl rfl ?_
          refine G.getR dX11_countOfOne_86 fkX11_46 fr11_6 h (fun v4 h => ?_)
          refine G.getR dX11_countOfOne_89 fkX11_368 fr10_10 h (fun v5 h => ?_)
          refine G.iload_n dX11_countOfOne_92 rfl rfl ?_
          refine G.bipush (40 : Int32) dX11_countOfOne_93 kb_40 ?_
          refine G.isub dX11_countOfOne_95 ?_
          refine G.iald dX11_countOfOne_96 h (fun v6 h => ?_)
          exact G.iret dX11_countOfOne_97 rfl (rfl) h
    · intro j7 Jj7 h
      refine G.icmp_lt 66 dX11_countOfOne_34 (by decide) h (fun c8 h => ?_) (fun c8 h => ?_)
      · refine G.sub (lv' := [(0, .ref a0), (1, .int a1)]) [0, 1] rfl ?_
        exact Jj7  h
      · refine G.aload_n dX11_countOfOne_37 rfl rfl ?_
        refine G.bipush (8 : Int32) dX11_countOfOne_38 kb_8 ?_
        refine G.iload_n dX11_countOfOne_40 rfl rfl ?_
        refine G.bipush (30 : Int32) dX11_countOfOne_41 kb_30 ?_
        refine G.isub dX11_countOfOne_43 ?_
        refine G.callVi (ci := 11) [.int (8 : Int32), .int (a1 - (30 : Int32))] [] dX11_countOfOne_44 lkX11_141 okX11_isOne rfl (fun v hv => C_X11_isOne hv) (Nat.le_of_ble_eq_true rfl) rfl rfl (Nat.le_of_ble_eq_true rfl) h (fun v9 h => ?_)
        refine G.if_eq 66 dX11_countOfOne_47 (by decide) h (fun c10 h => ?_) (fun c10 h => ?_)
        · refine G.sub (lv' := [(0, .ref a0), (1, .int a1)]) [0, 1] rfl ?_
          exact Jj7  h
        · refine G.aload_n dX11_countOfOne_50 rfl rfl ?_
          refine G.getR dX11_countOfOne_51 fkX11_46 fr11_6 h (fun v11 h => ?_)
          refine G.getR dX11_countOfOne_54 fkX11_308 fr10_11 h (fun v12 h => ?_)
          refine G.iload_n dX11_countOfOne_57 rfl rfl ?_
          refine G.bipush (30 : Int32) dX11_countOfOne_58 kb_30 ?_
          refine G.isub dX11_countOfOne_60 ?_
          refine G.iald dX11_countOfOne_61 h (fun v13 h => ?_)
          refine G.callSi [.int v13] [] dX11_countOfOne_62 lkX11_261 okJ6_bitCount_0f7a4 (fun v hv => C_J6_bitCount_0f7a4 hv) (Nat.le_of_ble_eq_true rfl) rfl rfl (Nat.le_of_ble_eq_true rfl) h (fun v14 h => ?_)
          exact G.iret dX11_countOfOne_65 rfl (rfl) h
  · intro j15 Jj15 h
    refine G.icmp_lt 31 dX11_countOfOne_3 (by decide) h (fun c16 h => ?_) (fun c16 h => ?_)
    · refine G.sub (lv' := [(0, .ref a0), (1, .int a1)]) [0, 1] rfl ?_
      exact Jj15  h
    · refine G.aload_n dX11_countOfOne_6 rfl rfl ?_
      refine G.iconst (2 : Int32) dX11_countOfOne_7 ki_2 ?_
      refine G.iload_n dX11_countOfOne_8 rfl rfl ?_
      refine G.bipush (20 : Int32) dX11_countOfOne_9 kb_20 ?_
      refine G.isub dX11_countOfOne_11 ?_
      refine G.callVi (ci := 11) [.int (2 : Int32), .int (a1 - (20 : Int32))] [] dX11_countOfOne_12 lkX11_141 okX11_isOne rfl (fun v hv => C_X11_isOne hv) (Nat.le_of_ble_eq_true rfl) rfl rfl (Nat.le_of_ble_eq_true rfl) h (fun v17 h => ?_)
      refine G.if_eq 31 dX11_countOfOne_15 (by decide) h (fun c18 h => ?_) (fun c18 h => ?_)
      · refine G.sub (lv' := [(0, .ref a0), (1, .int a1)]) [0, 1] rfl ?_
        exact Jj15  h
      · refine G.aload_n dX11_countOfOne_18 rfl rfl ?_
        refine G.getR dX11_countOfOne_19 fkX11_46 fr11_6 h (fun v19 h => ?_)
        refine G.getR dX11_countOfOne_22 fkX11_245 fr10_3 h (fun v20 h => ?_)
        refine G.iload_n dX11_countOfOne_25 rfl rfl ?_
        refine G.bipush (20 : Int32) dX11_countOfOne_26 kb_20 ?_
        refine G.isub dX11_countOfOne_28 ?_
        refine G.iald dX11_countOfOne_29 h (fun v21 h => ?_)
        exact G.iret dX11_countOfOne_30 rfl (rfl) h
-- OnlyUpward.count(I)I
set_option maxRecDepth 100000 in
set_option maxHeartbeats 4000000 in
def F_X11_count (n : Nat) (M : AM) (a0 : Nat) (a1 : Int32) : Option Int32 :=
  jn (if a1 = (10 : Int32) then (gR 11 8 M a0).bind fun v2 => (gI 5 1 M v2).bind fun v3 => some v3 else if a1 = (11 : Int32) then (gI 11 1 M a0).bind fun v5 => some v5 else if a1 = (12 : Int32) then (gR 11 8 M a0).bind fun v7 => (rcv 5 M v7 (F_X5_fullSlots n M v7)).bind fun v8 => some v8 else (rcv 11 M a0 (F_X11_countOfOne n M a0 a1)).bind fun v9 => some v9) fun j11 => if a1 < 0 then j11 else (aln M 4).bind fun v13 => if v13 ≤ a1 then j11 else (gR 11 6 M a0).bind fun v15 => (gR 10 0 M v15).bind fun v16 => (rdI M 4 a1).bind fun v17 => (rdI M v16 v17).bind fun v18 => some v18
set_option maxRecDepth 100000 in
set_option maxHeartbeats 4000000 in
theorem C_X11_count {n : Nat} {M : AM} {a0 : Nat} {a1 : Int32} {o : Int32} (h : F_X11_count n M a0 a1 = some o) : Cn yX11_count cX11_count 2 (some .int) 2 [.ref a0, .int a1] M (some (.int o)) M := by
  unfold F_X11_count at h
  refine Cn.of rfl (Nat.le_of_ble_eq_true rfl) ?_
  show G yX11_count cX11_count 2 (some .int) 2 0 [(0, .ref a0), (1, .int a1)] [] M (some (.int o)) M
  refine G.iload_n dX11_count_0 rfl rfl ?_
  refine jn_elim (fun j11 => j11 = some o → G yX11_count cX11_count 2 (some .int) 2 26 [(0, .ref a0), (1, .int a1)] [] M (some (.int o)) M) h ?_ ?_
  · intro h
    refine G.iload_n dX11_count_26 rfl rfl ?_
    refine G.sw h (fun c1 h => ?_) (fun c1 h => ?_)
    · refine G.tableIn 52 dX11_count_27 (by rw [c1]; decide) (by rw [c1]; decide) (by rw [c1]; rfl) (by decide) ?_
      refine G.aload_n dX11_count_52 rfl rfl ?_
      refine G.getR dX11_count_53 fkX11_56 fr11_8 h (fun v2 h => ?_)
      refine G.getI dX11_count_56 fkX11_186 fr5_1 h (fun v3 h => ?_)
      exact G.iret dX11_count_59 rfl (rfl) h
    · refine G.sw h (fun c4 h => ?_) (fun c4 h => ?_)
      · refine G.tableIn 60 dX11_count_27 (by rw [c4]; decide) (by rw [c4]; decide) (by rw [c4]; rfl) (by decide) ?_
        refine G.aload_n dX11_count_60 rfl rfl ?_
        refine G.getI dX11_count_61 fkX11_13 fr11_1 h (fun v5 h => ?_)
        exact G.iret dX11_count_64 rfl (rfl) h
      · refine G.sw h (fun c6 h => ?_) (fun c6 h => ?_)
        · refine G.tableIn 65 dX11_count_27 (by rw [c6]; decide) (by rw [c6]; decide) (by rw [c6]; rfl) (by decide) ?_
          refine G.aload_n dX11_count_65 rfl rfl ?_
          refine G.getR dX11_count_66 fkX11_56 fr11_8 h (fun v7 h => ?_)
          refine G.callVi (ci := 5) [] [] dX11_count_69 lkX11_362 okX5_fullSlots rfl (fun v hv => C_X5_fullSlots hv) (Nat.le_of_ble_eq_true rfl) rfl rfl (Nat.le_of_ble_eq_true rfl) h (fun v8 h => ?_)
          exact G.iret dX11_count_72 rfl (rfl) h
        · refine G.tableOut 73 dX11_count_27 (sw_out (lo := 10) (hi := 12) (fun z10 g1 g2 ge => ?_)) (by decide) ?_
          · have hz : z10 = 10 ∨ z10 = 11 ∨ z10 = 12 := by omega
            rcases hz with rfl | rfl | rfl
            · exact c1 ge
            · exact c4 ge
            · exact c6 ge
          · refine G.aload_n dX11_count_73 rfl rfl ?_
            refine G.iload_n dX11_count_74 rfl rfl ?_
            refine G.callVi (ci := 11) [.int a1] [] dX11_count_75 lkX11_365 okX11_countOfOne rfl (fun v hv => C_X11_countOfOne hv) (Nat.le_of_ble_eq_true rfl) rfl rfl (Nat.le_of_ble_eq_true rfl) h (fun v9 h => ?_)
            exact G.iret dX11_count_78 rfl (rfl) h
  · intro j11 Jj11 h
    refine G.if_lt 26 dX11_count_1 (by decide) h (fun c12 h => ?_) (fun c12 h => ?_)
    · refine G.sub (lv' := [(0, .ref a0), (1, .int a1)]) [0, 1] rfl ?_
      exact Jj11  h
    · refine G.iload_n dX11_count_4 rfl rfl ?_
      refine G.gets 4 (by decide) dX11_count_5 gsX11_359 ?_
      refine G.alen dX11_count_8 h (fun v13 h => ?_)
      refine G.icmp_ge 26 dX11_count_9 (by decide) h (fun c14 h => ?_) (fun c14 h => ?_)
      · refine G.sub (lv' := [(0, .ref a0), (1, .int a1)]) [0, 1] rfl ?_
        exact Jj11  h
      · refine G.aload_n dX11_count_12 rfl rfl ?_
        refine G.getR dX11_count_13 fkX11_46 fr11_6 h (fun v15 h => ?_)
        refine G.getR dX11_count_16 fkX11_137 fr10_0 h (fun v16 h => ?_)
        refine G.gets 4 (by decide) dX11_count_19 gsX11_359 ?_
        refine G.iload_n dX11_count_22 rfl rfl ?_
        refine G.iald dX11_count_23 h (fun v17 h => ?_)
        refine G.iald dX11_count_24 h (fun v18 h => ?_)
        exact G.iret dX11_count_25 rfl (rfl) h
