-- OnlyUpward.cheap(IIIII)I
set_option maxRecDepth 100000 in
set_option maxHeartbeats 4000000 in
def F_X11_cheap (n : Nat) (M : AM) (a0 : Nat) (a1 : Int32) (a2 : Int32) (a3 : Int32) (a4 : Int32) (a5 : Int32) : Option (Int32 × AM) :=
  (rcv 11 M a0 (F_X11_isOne n M a0 (1 : Int32) a1)).bind fun v1 => if v1 = 0 then some ((-1 : Int32), M) else (rcv 11 M a0 (F_X11_canSpread n M a0 a2 a3 a4)).bind fun v3 => if v3 = 0 then some ((-1 : Int32), M) else if a5 < 0 then some ((-1 : Int32), M) else if a5 ≤ (1 : Int32) then (gR 11 13 M a0).bind fun v7 => (rcv 0 M v7 (F_X0_aim n M v7 a1 a2)).bind fun M9 => (gR 11 13 M9 a0).bind fun v10 => (gR 11 6 M9 a0).bind fun v11 => (rcv 0 M9 v10 (F_X0_leastWay n M9 v10 v11 a4 a3)).bind fun v12 => if v12.1 = (500000 : Int32) then some ((-2 : Int32), v12.2) else if a5 = 0 then gd (¬ (32 : Int32) = 0) (some ((v12.1 / (32 : Int32)), v12.2)) else gd (¬ (32 : Int32) = 0) (some ((v12.1 - v12.1 / (32 : Int32) * (32 : Int32)), v12.2)) else some ((-1 : Int32), M)
set_option maxRecDepth 100000 in
set_option maxHeartbeats 4000000 in
theorem C_X11_cheap {n : Nat} {M : AM} {a0 : Nat} {a1 : Int32} {a2 : Int32} {a3 : Int32} {a4 : Int32} {a5 : Int32} {o : (Int32 × AM)} (h : F_X11_cheap n M a0 a1 a2 a3 a4 a5 = some o) : Cn yX11_cheap cX11_cheap 7 (some .int) 80 [.ref a0, .int a1, .int a2, .int a3, .int a4, .int a5] M (some (.int o.1)) o.2 := by
  unfold F_X11_cheap at h
  refine Cn.of rfl (Nat.le_of_ble_eq_true rfl) ?_
  show G yX11_cheap cX11_cheap 7 (some .int) 80 0 [(0, .ref a0), (1, .int a1), (2, .int a2), (3, .int a3), (4, .int a4), (5, .int a5)] [] M (some (.int o.1)) o.2
  refine G.aload_n dX11_cheap_0 rfl rfl ?_
  refine G.iconst (1 : Int32) dX11_cheap_1 ki_1 ?_
  refine G.iload_n dX11_cheap_2 rfl rfl ?_
  refine G.callVi (ci := 11) [.int (1 : Int32), .int a1] [] dX11_cheap_3 lkX11_141 okX11_isOne rfl (fun v hv => C_X11_isOne hv) (Nat.le_of_ble_eq_true rfl) rfl rfl (Nat.le_of_ble_eq_true rfl) h (fun v1 h => ?_)
  refine G.if_eq 31 dX11_cheap_6 (by decide) h (fun c2 h => ?_) (fun c2 h => ?_)
  · refine G.iconst (-1 : Int32) dX11_cheap_31 ki_m1 ?_
    exact G.iretW dX11_cheap_32 rfl (rfl) h
  · refine G.aload_n dX11_cheap_9 rfl rfl ?_
    refine G.iload_n dX11_cheap_10 rfl rfl ?_
    refine G.iload_n dX11_cheap_11 rfl rfl ?_
    refine G.iload dX11_cheap_12 rfl ?_
    refine G.callVi (ci := 11) [.int a2, .int a3, .int a4] [] dX11_cheap_14 lkX11_276 okX11_canSpread rfl (fun v hv => C_X11_canSpread hv) (Nat.le_of_ble_eq_true rfl) rfl rfl (Nat.le_of_ble_eq_true rfl) h (fun v3 h => ?_)
    refine G.if_eq 31 dX11_cheap_17 (by decide) h (fun c4 h => ?_) (fun c4 h => ?_)
    · refine G.iconst (-1 : Int32) dX11_cheap_31 ki_m1 ?_
      exact G.iretW dX11_cheap_32 rfl (rfl) h
    · refine G.iload dX11_cheap_20 rfl ?_
      refine G.if_lt 31 dX11_cheap_22 (by decide) h (fun c5 h => ?_) (fun c5 h => ?_)
      · refine G.iconst (-1 : Int32) dX11_cheap_31 ki_m1 ?_
        exact G.iretW dX11_cheap_32 rfl (rfl) h
      · refine G.iload dX11_cheap_25 rfl ?_
        refine G.iconst (1 : Int32) dX11_cheap_27 ki_1 ?_
        refine G.icmp_le 33 dX11_cheap_28 (by decide) h (fun c6 h => ?_) (fun c6 h => ?_)
        · refine G.aload_n dX11_cheap_33 rfl rfl ?_
          refine G.getR dX11_cheap_34 fkX11_84 fr11_13 h (fun v7 h => ?_)
          refine G.iload_n dX11_cheap_37 rfl rfl ?_
          refine G.iload_n dX11_cheap_38 rfl rfl ?_
          refine G.callVv (ci := 0) [.int a1, .int a2] [] dX11_cheap_39 lkX11_311 okX0_aim rfl (fun v hv => C_X0_aim hv) (Nat.le_of_ble_eq_true rfl) rfl rfl (Nat.le_of_ble_eq_true rfl) h (fun M9 h => ?_)
          refine G.aload_n dX11_cheap_42 rfl rfl ?_
          refine G.getR dX11_cheap_43 fkX11_84 fr11_13 h (fun v10 h => ?_)
          refine G.aload_n dX11_cheap_46 rfl rfl ?_
          refine G.getR dX11_cheap_47 fkX11_46 fr11_6 h (fun v11 h => ?_)
          refine G.iload dX11_cheap_50 rfl ?_
          refine G.iload_n dX11_cheap_52 rfl rfl ?_
          refine G.callVi (ci := 0) [.ref v11, .int a4, .int a3] [] dX11_cheap_53 lkX11_315 okX0_leastWay rfl (fun v hv => C_X0_leastWay hv) (Nat.le_of_ble_eq_true rfl) rfl rfl (Nat.le_of_ble_eq_true rfl) h (fun v12 h => ?_)
          refine G.istore (lv' := [(6, .int v12.1), (0, .ref a0), (1, .int a1), (2, .int a2), (3, .int a3), (4, .int a4), (5, .int a5)]) dX11_cheap_56 (Nat.le_of_ble_eq_true rfl) rfl ?_
          refine G.iload dX11_cheap_58 rfl ?_
          refine G.ldc_w (500000 : Int32) dX11_cheap_60 kcX11_319 ?_
          refine G.icmp_ne 69 dX11_cheap_63 (by decide) h (fun c13 h => ?_) (fun c13 h => ?_)
          · refine G.bipush (-2 : Int32) dX11_cheap_66 kb_m2 ?_
            exact G.iretW dX11_cheap_68 rfl (rfl) h
          · refine G.iload dX11_cheap_69 rfl ?_
            refine G.if_ne 82 dX11_cheap_71 (by decide) h (fun c14 h => ?_) (fun c14 h => ?_)
            · refine G.iload dX11_cheap_74 rfl ?_
              refine G.bipush (32 : Int32) dX11_cheap_76 kb_32 ?_
              refine gd_elim h (fun c15 h => ?_)
              refine G.idiv dX11_cheap_78 c15 ?_
              refine G.goto 87 dX11_cheap_79 (by decide) ?_
              exact G.iretW dX11_cheap_87 rfl (rfl) h
            · refine G.iload dX11_cheap_82 rfl ?_
              refine G.bipush (32 : Int32) dX11_cheap_84 kb_32 ?_
              refine gd_elim h (fun c16 h => ?_)
              refine G.irem dX11_cheap_86 c16 ?_
              exact G.iretW dX11_cheap_87 rfl (rfl) h
        · refine G.iconst (-1 : Int32) dX11_cheap_31 ki_m1 ?_
          exact G.iretW dX11_cheap_32 rfl (rfl) h
-- OnlyUpward$Cheapest.step(LOnlyUpward$World;III)I
set_option maxRecDepth 100000 in
set_option maxHeartbeats 4000000 in
def F_X0_step (n : Nat) (M : AM) (a0 : Nat) (a1 : Nat) (a2 : Int32) (a3 : Int32) (a4 : Int32) : Option (Int32 × AM) :=
  (rcv 0 M a0 (F_X0_least n 26 M a0 a1 a2 a3)).bind fun v1 => if v1.1 = (500000 : Int32) then some ((-1 : Int32), v1.2) else (iter (fun (s3 : Int32 × Int32 × Int32 × AM) => if (24 : Int32) ≤ s3.2.2.1 then some (.inr (.inl s3.2.2.2)) else (gI 0 0 s3.2.2.2 a0).bind fun v5 => (F_X11_hasBit n s3.2.2.2 s3.1 v5).bind fun v6 => if v6 = 0 then (rcv 0 s3.2.2.2 a0 (F_X0_entry n (F_X0_least n 26) s3.2.2.2 a0 a1 s3.2.2.1 s3.1)).bind fun v8 => gd (¬ (2048 : Int32) = 0) (lets (v8.1 - v8.1 / (2048 : Int32) * (2048 : Int32)) fun (w9 : Int32) => jn (fun (u10 : Int32) (u11 : Int32) => some (.inl (u10, u11, (s3.2.2.1 + (1 : Int32)), v8.2))) fun j12 => if w9 = (2047 : Int32) then j12 s3.1 s3.2.1 else if s3.2.1 = a4 then some (.inr (.inr ((((10000 : Int32) * s3.2.2.1) + w9), v8.2))) else gd (¬ (1000 : Int32) = 0) (gd (¬ (20 : Int32) = 0) ((rcv 10 v8.2 a1 (F_X10_placeOf n v8.2 a1 ((w9 - w9 / (1000 : Int32) * (1000 : Int32)) / (20 : Int32)) s3.2.2.1)).bind fun v15 => jn (fun (u16 : Int32) => j12 (s3.1 ||| u16) (s3.2.1 + (1 : Int32))) fun j17 => if (1000 : Int32) ≤ w9 then (rcv 10 v8.2 a1 (F_X10_standers n v8.2 a1 v15 s3.2.2.1)).bind fun v19 => j17 v19 else (rcv 10 v8.2 a1 (F_X10_hearers n v8.2 a1 v15 s3.2.2.1)).bind fun v20 => j17 v20))) else some (.inr (.inl s3.2.2.2))) n (a3, (0 : Int32), a2, v1.2)).bind fun (z3 : (AM) ⊕ (Int32 × AM)) => Sum.elim (fun (e3 : AM) => some ((-1 : Int32), e3)) (fun (v : (Int32 × AM)) => some v) z3
set_option maxRecDepth 100000 in
set_option maxHeartbeats 4000000 in
theorem C_X0_step {n : Nat} {M : AM} {a0 : Nat} {a1 : Nat} {a2 : Int32} {a3 : Int32} {a4 : Int32} {o : (Int32 × AM)} (h : F_X0_step n M a0 a1 a2 a3 a4 = some o) : Cn yX0_step cX0_step 10 (some .int) 81 [.ref a0, .ref a1, .int a2, .int a3, .int a4] M (some (.int o.1)) o.2 := by
  unfold F_X0_step at h
  refine Cn.of rfl (Nat.le_of_ble_eq_true rfl) ?_
  show G yX0_step cX0_step 10 (some .int) 81 0 [(0, .ref a0), (1, .ref a1), (2, .int a2), (3, .int a3), (4, .int a4)] [] M (some (.int o.1)) o.2
  refine G.aload_n dX0_step_0 rfl rfl ?_
  refine G.aload_n dX0_step_1 rfl rfl ?_
  refine G.iload_n dX0_step_2 rfl rfl ?_
  refine G.iload_n dX0_step_3 rfl rfl ?_
  refine G.callVi (ci := 0) [.ref a1, .int a2, .int a3] [] dX0_step_4 lkX0_28 okX0_least rfl (fun v hv => C_X0_least hv) (Nat.le_of_ble_eq_true rfl) rfl rfl (Nat.le_of_ble_eq_true rfl) h (fun v1 h => ?_)
  refine G.ldc (500000 : Int32) dX0_step_7 kcX0_36 ?_
  refine G.icmp_ne 14 dX0_step_9 (by decide) h (fun c2 h => ?_) (fun c2 h => ?_)
  · refine G.iconst (-1 : Int32) dX0_step_12 ki_m1 ?_
    exact G.iretW dX0_step_13 rfl (rfl) h
  · refine G.iload_n dX0_step_14 rfl rfl ?_
    refine G.istore (lv' := [(5, .int a3), (0, .ref a0), (1, .ref a1), (2, .int a2), (3, .int a3), (4, .int a4)]) dX0_step_15 (Nat.le_of_ble_eq_true rfl) rfl ?_
    refine G.iconst (0 : Int32) dX0_step_17 ki_0 ?_
    refine G.istore (lv' := [(6, .int (0 : Int32)), (5, .int a3), (0, .ref a0), (1, .ref a1), (2, .int a2), (3, .int a3), (4, .int a4)]) dX0_step_18 (Nat.le_of_ble_eq_true rfl) rfl ?_
    refine G.iload_n dX0_step_20 rfl rfl ?_
    refine G.istore (lv' := [(7, .int a2), (6, .int (0 : Int32)), (5, .int a3), (0, .ref a0), (1, .ref a1), (2, .int a2), (3, .int a3), (4, .int a4)]) dX0_step_21 (Nat.le_of_ble_eq_true rfl) rfl ?_
    refine G.sub (lv' := [(0, .ref a0), (1, .ref a1), (4, .int a4), (5, .int a3), (6, .int (0 : Int32)), (7, .int a2)]) [3, 4, 7, 2, 1, 0] rfl ?_
    refine loopE (fun (s3 : Int32 × Int32 × Int32 × AM) => G yX0_step cX0_step 10 (some .int) 81 23 [(0, .ref a0), (1, .ref a1), (4, .int a4), (5, .int s3.1), (6, .int s3.2.1), (7, .int s3.2.2.1)] [] s3.2.2.2 (some (.int o.1)) o.2) (fun (z3 : (AM) ⊕ (Int32 × AM)) => Sum.elim (fun (e3 : AM) => G yX0_step cX0_step 10 (some .int) 81 140 [] [] e3 (some (.int o.1)) o.2) (fun (v : (Int32 × AM)) => some v = some o) z3) h ?_ ?_
    · intro z3 h
      rcases z3 with e3 | v
      · have h := sum_inl h
        show G yX0_step cX0_step 10 (some .int) 81 140 [] [] e3 (some (.int o.1)) o.2
        refine G.iconst (-1 : Int32) dX0_step_140 ki_m1 ?_
        exact G.iretW dX0_step_141 rfl (rfl) h
      · have h := sum_inr h
        exact h
    · intro s3 x3 h K3
      show G yX0_step cX0_step 10 (some .int) 81 23 [(0, .ref a0), (1, .ref a1), (4, .int a4), (5, .int s3.1), (6, .int s3.2.1), (7, .int s3.2.2.1)] [] s3.2.2.2 (some (.int o.1)) o.2
      refine G.iload dX0_step_23 rfl ?_
      refine G.bipush (24 : Int32) dX0_step_25 kb_24 ?_
      refine G.icmp_ge 140 dX0_step_27 (by decide) h (fun c4 h => ?_) (fun c4 h => ?_)
      · refine G.sub (lv' := []) [] rfl ?_
        have h := leafR' h K3
        exact h
      · refine G.iload dX0_step_30 rfl ?_
        refine G.aload_n dX0_step_32 rfl rfl ?_
        refine G.getI dX0_step_33 fkX0_9 fr0_0 h (fun v5 h => ?_)
        refine G.callSi [.int s3.1, .int v5] [] dX0_step_36 lkX0_32 okX11_hasBit (fun v hv => C_X11_hasBit hv) (Nat.le_of_ble_eq_true rfl) rfl rfl (Nat.le_of_ble_eq_true rfl) h (fun v6 h => ?_)
        refine G.if_ne 140 dX0_step_39 (by decide) h (fun c7 h => ?_) (fun c7 h => ?_)
        · refine G.aload_n dX0_step_42 rfl rfl ?_
          refine G.aload_n dX0_step_43 rfl rfl ?_
          refine G.iload dX0_step_44 rfl ?_
          refine G.iload dX0_step_46 rfl ?_
          refine G.callVi (ci := 0) [.ref a1, .int s3.2.2.1, .int s3.1] [] dX0_step_48 lkX0_37 okX0_entry rfl (fun v hv => C_X0_entry (dd := 78) (fun _ _ _ _ _ _ hz => C_X0_least hz) hv) (Nat.le_of_ble_eq_true rfl) rfl rfl (Nat.le_of_ble_eq_true rfl) h (fun v8 h => ?_)
          refine G.sipush (2048 : Int32) dX0_step_51 ks_2048 ?_
          refine gd_elim h (fun c23 h => ?_)
          refine G.irem dX0_step_54 c23 ?_
          refine lets_elim h (fun w9 ew9 h => ?_)
          rw [← ew9]
          refine G.istore (lv' := [(8, .int w9), (0, .ref a0), (1, .ref a1), (4, .int a4), (5, .int s3.1), (6, .int s3.2.1), (7, .int s3.2.2.1)]) dX0_step_55 (Nat.le_of_ble_eq_true rfl) rfl ?_
          refine G.iload dX0_step_57 rfl ?_
          refine G.sipush (2047 : Int32) dX0_step_59 ks_2047 ?_
          refine jn_elim (fun j12 => ∀ (u10 : Int32) (u11 : Int32), j12 u10 u11 = some x3 → G yX0_step cX0_step 10 (some .int) 81 134 [(0, .ref a0), (1, .ref a1), (4, .int a4), (5, .int u10), (6, .int u11), (7, .int s3.2.2.1)] [] v8.2 (some (.int o.1)) o.2) h ?_ ?_
          · intro u10 u11 h
            refine G.iinc s3.2.2.1 (w := (s3.2.2.1 + (1 : Int32))) (lv' := [(7, .int (s3.2.2.1 + (1 : Int32))), (0, .ref a0), (1, .ref a1), (4, .int a4), (5, .int u10), (6, .int u11)]) dX0_step_134 rfl rfl (Nat.le_of_ble_eq_true rfl) rfl ?_
            refine G.goto 23 dX0_step_137 (by decide) ?_
            refine G.sub (lv' := [(0, .ref a0), (1, .ref a1), (4, .int a4), (5, .int u10), (6, .int u11), (7, .int (s3.2.2.1 + (1 : Int32)))]) [1, 2, 3, 4, 5, 0] rfl ?_
            have h := leafL' h K3
            exact h
          · intro j12 Jj12 h
            refine G.icmp_eq 134 dX0_step_62 (by decide) h (fun c13 h => ?_) (fun c13 h => ?_)
            · refine G.sub (lv' := [(0, .ref a0), (1, .ref a1), (4, .int a4), (5, .int s3.1), (6, .int s3.2.1), (7, .int s3.2.2.1)]) [1, 2, 3, 4, 5, 6] rfl ?_
              exact Jj12 _ _ h
            · refine G.iload dX0_step_65 rfl ?_
              refine G.iload dX0_step_67 rfl ?_
              refine G.icmp_ne 82 dX0_step_69 (by decide) h (fun c14 h => ?_) (fun c14 h => ?_)
              · refine G.sipush (10000 : Int32) dX0_step_72 ks_10000 ?_
                refine G.iload dX0_step_75 rfl ?_
                refine G.imul dX0_step_77 ?_
                refine G.iload dX0_step_78 rfl ?_
                refine G.iadd dX0_step_80 ?_
                have h := leafR' h K3
                exact G.iretW dX0_step_81 rfl (rfl) h
              · refine G.iinc s3.2.1 (w := (s3.2.1 + (1 : Int32))) (lv' := [(6, .int (s3.2.1 + (1 : Int32))), (8, .int w9), (0, .ref a0), (1, .ref a1), (4, .int a4), (5, .int s3.1), (7, .int s3.2.2.1)]) dX0_step_82 rfl rfl (Nat.le_of_ble_eq_true rfl) rfl ?_
                refine G.aload_n dX0_step_85 rfl rfl ?_
                refine G.iload dX0_step_86 rfl ?_
                refine G.sipush (1000 : Int32) dX0_step_88 ks_1000 ?_
                refine gd_elim h (fun c22 h => ?_)
                refine G.irem dX0_step_91 c22 ?_
                refine G.bipush (20 : Int32) dX0_step_92 kb_20 ?_
                refine gd_elim h (fun c21 h => ?_)
                refine G.idiv dX0_step_94 c21 ?_
                refine G.iload dX0_step_95 rfl ?_
                refine G.callVi (ci := 10) [.int ((w9 - w9 / (1000 : Int32) * (1000 : Int32)) / (20 : Int32)), .int s3.2.2.1] [] dX0_step_97 lkX0_56 okX10_placeOf rfl (fun v hv => C_X10_placeOf hv) (Nat.le_of_ble_eq_true rfl) rfl rfl (Nat.le_of_ble_eq_true rfl) h (fun v15 h => ?_)
                refine G.istore (lv' := [(9, .int v15), (6, .int (s3.2.1 + (1 : Int32))), (8, .int w9), (0, .ref a0), (1, .ref a1), (4, .int a4), (5, .int s3.1), (7, .int s3.2.2.1)]) dX0_step_100 (Nat.le_of_ble_eq_true rfl) rfl ?_
                refine G.iload dX0_step_102 rfl ?_
                refine G.iload dX0_step_104 rfl ?_
                refine G.sipush (1000 : Int32) dX0_step_106 ks_1000 ?_
                refine jn_elim (fun j17 => ∀ (u16 : Int32), j17 u16 = some x3 → G yX0_step cX0_step 10 (some .int) 81 131 [(0, .ref a0), (1, .ref a1), (4, .int a4), (6, .int (s3.2.1 + (1 : Int32))), (7, .int s3.2.2.1)] [.int u16, .int s3.1] v8.2 (some (.int o.1)) o.2) h ?_ ?_
                · intro u16 h
                  refine G.ior dX0_step_131 ?_
                  refine G.istore (lv' := [(5, .int (s3.1 ||| u16)), (0, .ref a0), (1, .ref a1), (4, .int a4), (6, .int (s3.2.1 + (1 : Int32))), (7, .int s3.2.2.1)]) dX0_step_132 (Nat.le_of_ble_eq_true rfl) rfl ?_
                  refine G.sub (lv' := [(0, .ref a0), (1, .ref a1), (4, .int a4), (5, .int (s3.1 ||| u16)), (6, .int (s3.2.1 + (1 : Int32))), (7, .int s3.2.2.1)]) [1, 2, 3, 0, 4, 5] rfl ?_
                  exact Jj12 _ _ h
                · intro j17 Jj17 h
                  refine G.icmp_ge 123 dX0_step_109 (by decide) h (fun c18 h => ?_) (fun c18 h => ?_)
                  · refine G.aload_n dX0_step_123 rfl rfl ?_
                    refine G.iload dX0_step_124 rfl ?_
                    refine G.iload dX0_step_126 rfl ?_
                    refine G.callVi (ci := 10) [.int v15, .int s3.2.2.1] [.int s3.1] dX0_step_128 lkX0_71 okX10_standers rfl (fun v hv => C_X10_standers hv) (Nat.le_of_ble_eq_true rfl) rfl rfl (Nat.le_of_ble_eq_true rfl) h (fun v19 h => ?_)
                    refine G.sub (lv' := [(0, .ref a0), (1, .ref a1), (4, .int a4), (6, .int (s3.2.1 + (1 : Int32))), (7, .int s3.2.2.1)]) [3, 4, 5, 1, 7] rfl ?_
                    exact Jj17 _ h
                  · refine G.aload_n dX0_step_112 rfl rfl ?_
                    refine G.iload dX0_step_113 rfl ?_
                    refine G.iload dX0_step_115 rfl ?_
                    refine G.callVi (ci := 10) [.int v15, .int s3.2.2.1] [.int s3.1] dX0_step_117 lkX0_62 okX10_hearers rfl (fun v hv => C_X10_hearers hv) (Nat.le_of_ble_eq_true rfl) rfl rfl (Nat.le_of_ble_eq_true rfl) h (fun v20 h => ?_)
                    refine G.goto 131 dX0_step_120 (by decide) ?_
                    refine G.sub (lv' := [(0, .ref a0), (1, .ref a1), (4, .int a4), (6, .int (s3.2.1 + (1 : Int32))), (7, .int s3.2.2.1)]) [3, 4, 5, 1, 7] rfl ?_
                    exact Jj17 _ h
        · refine G.sub (lv' := []) [] rfl ?_
          have h := leafR' h K3
          exact h
-- OnlyUpward.cheapAt(IIIII)I
set_option maxRecDepth 100000 in
set_option maxHeartbeats 4000000 in
def F_X11_cheapAt (n : Nat) (M : AM) (a0 : Nat) (a1 : Int32) (a2 : Int32) (a3 : Int32) (a4 : Int32) (a5 : Int32) : Option (Int32 × AM) :=
  (rcv 11 M a0 (F_X11_isOne n M a0 (1 : Int32) a1)).bind fun v1 => if v1 = 0 then some ((-1 : Int32), M) else (rcv 11 M a0 (F_X11_canSpread n M a0 a2 a3 a4)).bind fun v3 => if v3 = 0 then some ((-1 : Int32), M) else if 0 ≤ a5 then (gR 11 13 M a0).bind fun v6 => (rcv 0 M v6 (F_X0_aim n M v6 a1 a2)).bind fun M8 => (gR 11 13 M8 a0).bind fun v9 => (gR 11 6 M8 a0).bind fun v10 => (rcv 0 M8 v9 (F_X0_step n M8 v9 v10 a4 a3 a5)).bind fun v11 => some (v11.1, v11.2) else some ((-1 : Int32), M)
set_option maxRecDepth 100000 in
set_option maxHeartbeats 4000000 in
theorem C_X11_cheapAt {n : Nat} {M : AM} {a0 : Nat} {a1 : Int32} {a2 : Int32} {a3 : Int32} {a4 : Int32} {a5 : Int32} {o : (Int32 × AM)} (h : F_X11_cheapAt n M a0 a1 a2 a3 a4 a5 = some o) : Cn yX11_cheapAt cX11_cheapAt 6 (some .int) 82 [.ref a0, .int a1, .int a2, .int a3, .int a4, .int a5] M (some (.int o.1)) o.2 := by
  unfold F_X11_cheapAt at h
  refine Cn.of rfl (Nat.le_of_ble_eq_true rfl) ?_
  show G yX11_cheapAt cX11_cheapAt 6 (some .int) 82 0 [(0, .ref a0), (1, .int a1), (2, .int a2), (3, .int a3), (4, .int a4), (5, .int a5)] [] M (some (.int o.1)) o.2
  refine G.aload_n dX11_cheapAt_0 rfl rfl ?_
  refine G.iconst (1 : Int32) dX11_cheapAt_1 ki_1 ?_
  refine G.iload_n dX11_cheapAt_2 rfl rfl ?_
  refine G.callVi (ci := 11) [.int (1 : Int32), .int a1] [] dX11_cheapAt_3 lkX11_141 okX11_isOne rfl (fun v hv => C_X11_isOne hv) (Nat.le_of_ble_eq_true rfl) rfl rfl (Nat.le_of_ble_eq_true rfl) h (fun v1 h => ?_)
  refine G.if_eq 25 dX11_cheapAt_6 (by decide) h (fun c2 h => ?_) (fun c2 h => ?_)
  · refine G.iconst (-1 : Int32) dX11_cheapAt_25 ki_m1 ?_
    exact G.iretW dX11_cheapAt_26 rfl (rfl) h
  · refine G.aload_n dX11_cheapAt_9 rfl rfl ?_
    refine G.iload_n dX11_cheapAt_10 rfl rfl ?_
    refine G.iload_n dX11_cheapAt_11 rfl rfl ?_
    refine G.iload dX11_cheapAt_12 rfl ?_
    refine G.callVi (ci := 11) [.int a2, .int a3, .int a4] [] dX11_cheapAt_14 lkX11_276 okX11_canSpread rfl (fun v hv => C_X11_canSpread hv) (Nat.le_of_ble_eq_true rfl) rfl rfl (Nat.le_of_ble_eq_true rfl) h (fun v3 h => ?_)
    refine G.if_eq 25 dX11_cheapAt_17 (by decide) h (fun c4 h => ?_) (fun c4 h => ?_)
    · refine G.iconst (-1 : Int32) dX11_cheapAt_25 ki_m1 ?_
      exact G.iretW dX11_cheapAt_26 rfl (rfl) h
    · refine G.iload dX11_cheapAt_20 rfl ?_
      refine G.if_ge 27 dX11_cheapAt_22 (by decide) h (fun c5 h => ?_) (fun c5 h => ?_)
      · refine G.aload_n dX11_cheapAt_27 rfl rfl ?_
        refine G.getR dX11_cheapAt_28 fkX11_84 fr11_13 h (fun v6 h => ?_)
        refine G.iload_n dX11_cheapAt_31 rfl rfl ?_
        refine G.iload_n dX11_cheapAt_32 rfl rfl ?_
        refine G.callVv (ci := 0) [.int a1, .int a2] [] dX11_cheapAt_33 lkX11_311 okX0_aim rfl (fun v hv => C_X0_aim hv) (Nat.le_of_ble_eq_true rfl) rfl rfl (Nat.le_of_ble_eq_true rfl) h (fun M8 h => ?_)
        refine G.aload_n dX11_cheapAt_36 rfl rfl ?_
        refine G.getR dX11_cheapAt_37 fkX11_84 fr11_13 h (fun v9 h => ?_)
        refine G.aload_n dX11_cheapAt_40 rfl rfl ?_
        refine G.getR dX11_cheapAt_41 fkX11_46 fr11_6 h (fun v10 h => ?_)
        refine G.iload dX11_cheapAt_44 rfl ?_
        refine G.iload_n dX11_cheapAt_46 rfl rfl ?_
        refine G.iload dX11_cheapAt_47 rfl ?_
        refine G.callVi (ci := 0) [.ref v10, .int a4, .int a3, .int a5] [] dX11_cheapAt_49 lkX11_320 okX0_step rfl (fun v hv => C_X0_step hv) (Nat.le_of_ble_eq_true rfl) rfl rfl (Nat.le_of_ble_eq_true rfl) h (fun v11 h => ?_)
        exact G.iretW dX11_cheapAt_52 rfl (rfl) h
      · refine G.iconst (-1 : Int32) dX11_cheapAt_25 ki_m1 ?_
        exact G.iretW dX11_cheapAt_26 rfl (rfl) h
-- OnlyUpward.youngerHearers(II)I
set_option maxRecDepth 100000 in
set_option maxHeartbeats 4000000 in
def F_X11_youngerHearers (n : Nat) (M : AM) (a0 : Nat) (a1 : Int32) (a2 : Int32) : Option Int32 :=
  (gR 11 6 M a0).bind fun v1 => (gR 11 6 M a0).bind fun v2 => (rcv 10 M v2 (F_X10_placeOf n M v2 a1 a2)).bind fun v3 => (rcv 10 M v1 (F_X10_hearers n M v1 v3 a2)).bind fun v4 => (iter (fun (s5 : Int32 × Int32) => (gR 11 6 M a0).bind fun v6 => (gR 10 0 M v6).bind fun v7 => (rdI M v7 (1 : Int32)).bind fun v8 => if v8 ≤ s5.2 then some (.inr s5.1) else (F_X11_hasBit n M v4 s5.2).bind fun v10 => jn (fun (u11 : Int32) => some (.inl (u11, (s5.2 + (1 : Int32))))) fun j12 => if v10 = 0 then j12 s5.1 else (gR 11 6 M a0).bind fun v14 => (rcv 10 M v14 (F_X10_ageAt n M v14 s5.2 a2)).bind fun v15 => (gR 11 6 M a0).bind fun v16 => (rcv 10 M v16 (F_X10_ageAt n M v16 a1 a2)).bind fun v17 => if v17 ≤ v15 then j12 s5.1 else j12 (s5.1 ||| ((1 : Int32) <<< (s5.2 &&& 31)))) n ((0 : Int32), (0 : Int32))).bind fun (e5 : Int32) => some e5
set_option maxRecDepth 100000 in
set_option maxHeartbeats 4000000 in
theorem C_X11_youngerHearers {n : Nat} {M : AM} {a0 : Nat} {a1 : Int32} {a2 : Int32} {o : Int32} (h : F_X11_youngerHearers n M a0 a1 a2 = some o) : Cn yX11_youngerHearers cX11_youngerHearers 6 (some .int) 1 [.ref a0, .int a1, .int a2] M (some (.int o)) M := by
  unfold F_X11_youngerHearers at h
  refine Cn.of rfl (Nat.le_of_ble_eq_true rfl) ?_
  show G yX11_youngerHearers cX11_youngerHearers 6 (some .int) 1 0 [(0, .ref a0), (1, .int a1), (2, .int a2)] [] M (some (.int o)) M
  refine G.aload_n dX11_youngerHearers_0 rfl rfl ?_
  refine G.getR dX11_youngerHearers_1 fkX11_46 fr11_6 h (fun v1 h => ?_)
  refine G.aload_n dX11_youngerHearers_4 rfl rfl ?_
  refine G.getR dX11_youngerHearers_5 fkX11_46 fr11_6 h (fun v2 h => ?_)
  refine G.iload_n dX11_youngerHearers_8 rfl rfl ?_
  refine G.iload_n dX11_youngerHearers_9 rfl rfl ?_
  refine G.callVi (ci := 10) [.int a1, .int a2] [.ref v1] dX11_youngerHearers_10 lkX11_153 okX10_placeOf rfl (fun v hv => C_X10_placeOf hv) (Nat.le_of_ble_eq_true rfl) rfl rfl (Nat.le_of_ble_eq_true rfl) h (fun v3 h => ?_)
  refine G.iload_n dX11_youngerHearers_13 rfl rfl ?_
  refine G.callVi (ci := 10) [.int v3, .int a2] [] dX11_youngerHearers_14 lkX11_156 okX10_hearers rfl (fun v hv => C_X10_hearers hv) (Nat.le_of_ble_eq_true rfl) rfl rfl (Nat.le_of_ble_eq_true rfl) h (fun v4 h => ?_)
  refine G.istore_n (lv' := [(3, .int v4), (0, .ref a0), (1, .int a1), (2, .int a2)]) dX11_youngerHearers_17 rfl (Nat.le_of_ble_eq_true rfl) rfl ?_
  refine G.iconst (0 : Int32) dX11_youngerHearers_18 ki_0 ?_
  refine G.istore (lv' := [(4, .int (0 : Int32)), (3, .int v4), (0, .ref a0), (1, .int a1), (2, .int a2)]) dX11_youngerHearers_19 (Nat.le_of_ble_eq_true rfl) rfl ?_
  refine G.iconst (0 : Int32) dX11_youngerHearers_21 ki_0 ?_
  refine G.istore (lv' := [(5, .int (0 : Int32)), (4, .int (0 : Int32)), (3, .int v4), (0, .ref a0), (1, .int a1), (2, .int a2)]) dX11_youngerHearers_22 (Nat.le_of_ble_eq_true rfl) rfl ?_
  refine G.sub (lv' := [(0, .ref a0), (1, .int a1), (2, .int a2), (3, .int v4), (4, .int (0 : Int32)), (5, .int (0 : Int32))]) [3, 4, 5, 2, 1, 0] rfl ?_
  refine loopE (fun (s5 : Int32 × Int32) => G yX11_youngerHearers cX11_youngerHearers 6 (some .int) 1 24 [(0, .ref a0), (1, .int a1), (2, .int a2), (3, .int v4), (4, .int s5.1), (5, .int s5.2)] [] M (some (.int o)) M) (fun (e5 : Int32) => G yX11_youngerHearers cX11_youngerHearers 6 (some .int) 1 84 [(4, .int e5)] [] M (some (.int o)) M) h ?_ ?_
  · intro e5 h
    show G yX11_youngerHearers cX11_youngerHearers 6 (some .int) 1 84 [(4, .int e5)] [] M (some (.int o)) M
    refine G.iload dX11_youngerHearers_84 rfl ?_
    exact G.iret dX11_youngerHearers_86 rfl (rfl) h
  · intro s5 x5 h K5
    show G yX11_youngerHearers cX11_youngerHearers 6 (some .int) 1 24 [(0, .ref a0), (1, .int a1), (2, .int a2), (3, .int v4), (4, .int s5.1), (5, .int s5.2)] [] M (some (.int o)) M
    refine G.iload dX11_youngerHearers_24 rfl ?_
    refine G.aload_n dX11_youngerHearers_26 rfl rfl ?_
    refine G.getR dX11_youngerHearers_27 fkX11_46 fr11_6 h (fun v6 h => ?_)
    refine G.getR dX11_youngerHearers_30 fkX11_137 fr10_0 h (fun v7 h => ?_)
    refine G.iconst (1 : Int32) dX11_youngerHearers_33 ki_1 ?_
    refine G.iald dX11_youngerHearers_34 h (fun v8 h => ?_)
    refine G.icmp_ge 84 dX11_youngerHearers_35 (by decide) h (fun c9 h => ?_) (fun c9 h => ?_)
    · refine G.sub (lv' := [(4, .int s5.1)]) [4] rfl ?_
      have h := leafR' h K5
      exact h
    · refine G.iload_n dX11_youngerHearers_38 rfl rfl ?_
      refine G.iload dX11_youngerHearers_39 rfl ?_
      refine G.callSi [.int v4, .int s5.2] [] dX11_youngerHearers_41 lkX11_248 okX11_hasBit (fun v hv => C_X11_hasBit hv) (Nat.le_of_ble_eq_true rfl) rfl rfl (Nat.le_of_ble_eq_true rfl) h (fun v10 h => ?_)
      refine jn_elim (fun j12 => ∀ (u11 : Int32), j12 u11 = some x5 → G yX11_youngerHearers cX11_youngerHearers 6 (some .int) 1 78 [(0, .ref a0), (1, .int a1), (2, .int a2), (3, .int v4), (4, .int u11), (5, .int s5.2)] [] M (some (.int o)) M) h ?_ ?_
      · intro u11 h
        refine G.iinc s5.2 (w := (s5.2 + (1 : Int32))) (lv' := [(5, .int (s5.2 + (1 : Int32))), (0, .ref a0), (1, .int a1), (2, .int a2), (3, .int v4), (4, .int u11)]) dX11_youngerHearers_78 rfl rfl (Nat.le_of_ble_eq_true rfl) rfl ?_
        refine G.goto 24 dX11_youngerHearers_81 (by decide) ?_
        refine G.sub (lv' := [(0, .ref a0), (1, .int a1), (2, .int a2), (3, .int v4), (4, .int u11), (5, .int (s5.2 + (1 : Int32)))]) [1, 2, 3, 4, 5, 0] rfl ?_
        have h := leafL' h K5
        exact h
      · intro j12 Jj12 h
        refine G.if_eq 78 dX11_youngerHearers_44 (by decide) h (fun c13 h => ?_) (fun c13 h => ?_)
        · refine G.sub (lv' := [(0, .ref a0), (1, .int a1), (2, .int a2), (3, .int v4), (4, .int s5.1), (5, .int s5.2)]) [0, 1, 2, 3, 4, 5] rfl ?_
          exact Jj12 _ h
        · refine G.aload_n dX11_youngerHearers_47 rfl rfl ?_
          refine G.getR dX11_youngerHearers_48 fkX11_46 fr11_6 h (fun v14 h => ?_)
          refine G.iload dX11_youngerHearers_51 rfl ?_
          refine G.iload_n dX11_youngerHearers_53 rfl rfl ?_
          refine G.callVi (ci := 10) [.int s5.2, .int a2] [] dX11_youngerHearers_54 lkX11_149 okX10_ageAt rfl (fun v hv => C_X10_ageAt hv) (Nat.le_of_ble_eq_true rfl) rfl rfl (Nat.le_of_ble_eq_true rfl) h (fun v15 h => ?_)
          refine G.aload_n dX11_youngerHearers_57 rfl rfl ?_
          refine G.getR dX11_youngerHearers_58 fkX11_46 fr11_6 h (fun v16 h => ?_)
          refine G.iload_n dX11_youngerHearers_61 rfl rfl ?_
          refine G.iload_n dX11_youngerHearers_62 rfl rfl ?_
          refine G.callVi (ci := 10) [.int a1, .int a2] [.int v15] dX11_youngerHearers_63 lkX11_149 okX10_ageAt rfl (fun v hv => C_X10_ageAt hv) (Nat.le_of_ble_eq_true rfl) rfl rfl (Nat.le_of_ble_eq_true rfl) h (fun v17 h => ?_)
          refine G.icmp_ge 78 dX11_youngerHearers_66 (by decide) h (fun c18 h => ?_) (fun c18 h => ?_)
          · refine G.sub (lv' := [(0, .ref a0), (1, .int a1), (2, .int a2), (3, .int v4), (4, .int s5.1), (5, .int s5.2)]) [0, 1, 2, 3, 4, 5] rfl ?_
            exact Jj12 _ h
          · refine G.iload dX11_youngerHearers_69 rfl ?_
            refine G.iconst (1 : Int32) dX11_youngerHearers_71 ki_1 ?_
            refine G.iload dX11_youngerHearers_72 rfl ?_
            refine G.ishl dX11_youngerHearers_74 ?_
            refine G.ior dX11_youngerHearers_75 ?_
            refine G.istore (lv' := [(4, .int (s5.1 ||| ((1 : Int32) <<< (s5.2 &&& 31)))), (0, .ref a0), (1, .int a1), (2, .int a2), (3, .int v4), (5, .int s5.2)]) dX11_youngerHearers_76 (Nat.le_of_ble_eq_true rfl) rfl ?_
            refine G.sub (lv' := [(0, .ref a0), (1, .int a1), (2, .int a2), (3, .int v4), (4, .int (s5.1 ||| ((1 : Int32) <<< (s5.2 &&& 31)))), (5, .int s5.2)]) [1, 2, 3, 4, 0, 5] rfl ?_
            exact Jj12 _ h
-- OnlyUpward.secret(II)I
set_option maxRecDepth 100000 in
set_option maxHeartbeats 4000000 in
def F_X11_secret (n : Nat) (M : AM) (a0 : Nat) (a1 : Int32) (a2 : Int32) : Option Int32 :=
  (rcv 11 M a0 (F_X11_isOne n M a0 (1 : Int32) a1)).bind fun v1 => if v1 = 0 then some (-1 : Int32) else (F_X11_isHour n M a2).bind fun v3 => if v3 = 0 then some (-1 : Int32) else (gR 11 6 M a0).bind fun v5 => (rcv 10 M v5 (F_X10_sayTo n M v5 a1 a2)).bind fun v6 => if v6 = 0 then some (-2 : Int32) else (rcv 11 M a0 (F_X11_youngerHearers n M a0 a1 a2)).bind fun v8 => if v8 = 0 then (F_J6_numberOfTrailingZeros_0f7a4 n M v6).bind fun v10 => some v10 else some (-2 : Int32)
set_option maxRecDepth 100000 in
set_option maxHeartbeats 4000000 in
theorem C_X11_secret {n : Nat} {M : AM} {a0 : Nat} {a1 : Int32} {a2 : Int32} {o : Int32} (h : F_X11_secret n M a0 a1 a2 = some o) : Cn yX11_secret cX11_secret 4 (some .int) 2 [.ref a0, .int a1, .int a2] M (some (.int o)) M := by
  unfold F_X11_secret at h
  refine Cn.of rfl (Nat.le_of_ble_eq_true rfl) ?_
  show G yX11_secret cX11_secret 4 (some .int) 2 0 [(0, .ref a0), (1, .int a1), (2, .int a2)] [] M (some (.int o)) M
  refine G.aload_n dX11_secret_0 rfl rfl ?_
  refine G.iconst (1 : Int32) dX11_secret_1 ki_1 ?_
  refine G.iload_n dX11_secret_2 rfl rfl ?_
  refine G.callVi (ci := 11) [.int (1 : Int32), .int a1] [] dX11_secret_3 lkX11_141 okX11_isOne rfl (fun v hv => C_X11_isOne hv) (Nat.le_of_ble_eq_true rfl) rfl rfl (Nat.le_of_ble_eq_true rfl) h (fun v1 h => ?_)
  refine G.if_eq 16 dX11_secret_6 (by decide) h (fun c2 h => ?_) (fun c2 h => ?_)
  · refine G.iconst (-1 : Int32) dX11_secret_16 ki_m1 ?_
    exact G.iret dX11_secret_17 rfl (rfl) h
  · refine G.iload_n dX11_secret_9 rfl rfl ?_
    refine G.callSi [.int a2] [] dX11_secret_10 lkX11_145 okX11_isHour (fun v hv => C_X11_isHour hv) (Nat.le_of_ble_eq_true rfl) rfl rfl (Nat.le_of_ble_eq_true rfl) h (fun v3 h => ?_)
    refine G.if_ne 18 dX11_secret_13 (by decide) h (fun c4 h => ?_) (fun c4 h => ?_)
    · refine G.iconst (-1 : Int32) dX11_secret_16 ki_m1 ?_
      exact G.iret dX11_secret_17 rfl (rfl) h
    · refine G.aload_n dX11_secret_18 rfl rfl ?_
      refine G.getR dX11_secret_19 fkX11_46 fr11_6 h (fun v5 h => ?_)
      refine G.iload_n dX11_secret_22 rfl rfl ?_
      refine G.iload_n dX11_secret_23 rfl rfl ?_
      refine G.callVi (ci := 10) [.int a1, .int a2] [] dX11_secret_24 lkX11_324 okX10_sayTo rfl (fun v hv => C_X10_sayTo hv) (Nat.le_of_ble_eq_true rfl) rfl rfl (Nat.le_of_ble_eq_true rfl) h (fun v6 h => ?_)
      refine G.istore_n (lv' := [(3, .int v6), (0, .ref a0), (1, .int a1), (2, .int a2)]) dX11_secret_27 rfl (Nat.le_of_ble_eq_true rfl) rfl ?_
      refine G.iload_n dX11_secret_28 rfl rfl ?_
      refine G.if_eq 41 dX11_secret_29 (by decide) h (fun c7 h => ?_) (fun c7 h => ?_)
      · refine G.bipush (-2 : Int32) dX11_secret_41 kb_m2 ?_
        exact G.iret dX11_secret_43 rfl (rfl) h
      · refine G.aload_n dX11_secret_32 rfl rfl ?_
        refine G.iload_n dX11_secret_33 rfl rfl ?_
        refine G.iload_n dX11_secret_34 rfl rfl ?_
        refine G.callVi (ci := 11) [.int a1, .int a2] [] dX11_secret_35 lkX11_327 okX11_youngerHearers rfl (fun v hv => C_X11_youngerHearers hv) (Nat.le_of_ble_eq_true rfl) rfl rfl (Nat.le_of_ble_eq_true rfl) h (fun v8 h => ?_)
        refine G.if_eq 44 dX11_secret_38 (by decide) h (fun c9 h => ?_) (fun c9 h => ?_)
        · refine G.iload_n dX11_secret_44 rfl rfl ?_
          refine G.callSi [.int v6] [] dX11_secret_45 lkX11_330 okJ6_numberOfTrailingZeros_0f7a4 (fun v hv => C_J6_numberOfTrailingZeros_0f7a4 hv) (Nat.le_of_ble_eq_true rfl) rfl rfl (Nat.le_of_ble_eq_true rfl) h (fun v10 h => ?_)
          exact G.iret dX11_secret_48 rfl (rfl) h
        · refine G.bipush (-2 : Int32) dX11_secret_41 kb_m2 ?_
          exact G.iret dX11_secret_43 rfl (rfl) h
-- OnlyUpward.below(II)I
set_option maxRecDepth 100000 in
set_option maxHeartbeats 4000000 in
def F_X11_below (n : Nat) (M : AM) (a0 : Nat) (a1 : Int32) (a2 : Int32) : Option Int32 :=
  (rcv 11 M a0 (F_X11_isOne n M a0 (1 : Int32) a1)).bind fun v1 => if v1 = 0 then some (-1 : Int32) else (F_X11_isHour n M a2).bind fun v3 => if v3 = 0 then some (-1 : Int32) else (rcv 11 M a0 (F_X11_youngerHearers n M a0 a1 a2)).bind fun v5 => some v5
set_option maxRecDepth 100000 in
set_option maxHeartbeats 4000000 in
theorem C_X11_below {n : Nat} {M : AM} {a0 : Nat} {a1 : Int32} {a2 : Int32} {o : Int32} (h : F_X11_below n M a0 a1 a2 = some o) : Cn yX11_below cX11_below 3 (some .int) 2 [.ref a0, .int a1, .int a2] M (some (.int o)) M := by
  unfold F_X11_below at h
  refine Cn.of rfl (Nat.le_of_ble_eq_true rfl) ?_
  show G yX11_below cX11_below 3 (some .int) 2 0 [(0, .ref a0), (1, .int a1), (2, .int a2)] [] M (some (.int o)) M
  refine G.aload_n dX11_below_0 rfl rfl ?_
  refine G.iconst (1 : Int32) dX11_below_1 ki_1 ?_
  refine G.iload_n dX11_below_2 rfl rfl ?_
  refine G.callVi (ci := 11) [.int (1 : Int32), .int a1] [] dX11_below_3 lkX11_141 okX11_isOne rfl (fun v hv => C_X11_isOne hv) (Nat.le_of_ble_eq_true rfl) rfl rfl (Nat.le_of_ble_eq_true rfl) h (fun v1 h => ?_)
  refine G.if_eq 16 dX11_below_6 (by decide) h (fun c2 h => ?_) (fun c2 h => ?_)
  · refine G.iconst (-1 : Int32) dX11_below_16 ki_m1 ?_
    exact G.iret dX11_below_17 rfl (rfl) h
  · refine G.iload_n dX11_below_9 rfl rfl ?_
    refine G.callSi [.int a2] [] dX11_below_10 lkX11_145 okX11_isHour (fun v hv => C_X11_isHour hv) (Nat.le_of_ble_eq_true rfl) rfl rfl (Nat.le_of_ble_eq_true rfl) h (fun v3 h => ?_)
    refine G.if_ne 18 dX11_below_13 (by decide) h (fun c4 h => ?_) (fun c4 h => ?_)
    · refine G.iconst (-1 : Int32) dX11_below_16 ki_m1 ?_
      exact G.iret dX11_below_17 rfl (rfl) h
    · refine G.aload_n dX11_below_18 rfl rfl ?_
      refine G.iload_n dX11_below_19 rfl rfl ?_
      refine G.iload_n dX11_below_20 rfl rfl ?_
      refine G.callVi (ci := 11) [.int a1, .int a2] [] dX11_below_21 lkX11_327 okX11_youngerHearers rfl (fun v hv => C_X11_youngerHearers hv) (Nat.le_of_ble_eq_true rfl) rfl rfl (Nat.le_of_ble_eq_true rfl) h (fun v5 h => ?_)
      exact G.iret dX11_below_24 rfl (rfl) h
-- OnlyUpward.stand(III)I
set_option maxRecDepth 100000 in
set_option maxHeartbeats 4000000 in
def F_X11_stand (n : Nat) (M : AM) (a0 : Nat) (a1 : Int32) (a2 : Int32) (a3 : Int32) : Option Int32 :=
  (rcv 11 M a0 (F_X11_isOne n M a0 (0 : Int32) a1)).bind fun v1 => if v1 = 0 then some (-1 : Int32) else (F_X11_isHour n M a2).bind fun v3 => if v3 = 0 then some (-1 : Int32) else (rcv 11 M a0 (F_X11_isSet n M a0 a3)).bind fun v5 => if v5 = 0 then some (-1 : Int32) else (gR 11 6 M a0).bind fun v7 => (rcv 10 M v7 (F_X10_hearers n M v7 a1 a2)).bind fun v8 => some (a3 &&& (v8 ^^^ (-1 : Int32)))
set_option maxRecDepth 100000 in
set_option maxHeartbeats 4000000 in
theorem C_X11_stand {n : Nat} {M : AM} {a0 : Nat} {a1 : Int32} {a2 : Int32} {a3 : Int32} {o : Int32} (h : F_X11_stand n M a0 a1 a2 a3 = some o) : Cn yX11_stand cX11_stand 4 (some .int) 1 [.ref a0, .int a1, .int a2, .int a3] M (some (.int o)) M := by
  unfold F_X11_stand at h
  refine Cn.of rfl (Nat.le_of_ble_eq_true rfl) ?_
  show G yX11_stand cX11_stand 4 (some .int) 1 0 [(0, .ref a0), (1, .int a1), (2, .int a2), (3, .int a3)] [] M (some (.int o)) M
  refine G.aload_n dX11_stand_0 rfl rfl ?_
  refine G.iconst (0 : Int32) dX11_stand_1 ki_0 ?_
  refine G.iload_n dX11_stand_2 rfl rfl ?_
  refine G.callVi (ci := 11) [.int (0 : Int32), .int a1] [] dX11_stand_3 lkX11_141 okX11_isOne rfl (fun v hv => C_X11_isOne hv) (Nat.le_of_ble_eq_true rfl) rfl rfl (Nat.le_of_ble_eq_true rfl) h (fun v1 h => ?_)
  refine G.if_eq 24 dX11_stand_6 (by decide) h (fun c2 h => ?_) (fun c2 h => ?_)
  · refine G.iconst (-1 : Int32) dX11_stand_24 ki_m1 ?_
    exact G.iret dX11_stand_25 rfl (rfl) h
  · refine G.iload_n dX11_stand_9 rfl rfl ?_
    refine G.callSi [.int a2] [] dX11_stand_10 lkX11_145 okX11_isHour (fun v hv => C_X11_isHour hv) (Nat.le_of_ble_eq_true rfl) rfl rfl (Nat.le_of_ble_eq_true rfl) h (fun v3 h => ?_)
    refine G.if_eq 24 dX11_stand_13 (by decide) h (fun c4 h => ?_) (fun c4 h => ?_)
    · refine G.iconst (-1 : Int32) dX11_stand_24 ki_m1 ?_
      exact G.iret dX11_stand_25 rfl (rfl) h
    · refine G.aload_n dX11_stand_16 rfl rfl ?_
      refine G.iload_n dX11_stand_17 rfl rfl ?_
      refine G.callVi (ci := 11) [.int a3] [] dX11_stand_18 lkX11_273 okX11_isSet rfl (fun v hv => C_X11_isSet hv) (Nat.le_of_ble_eq_true rfl) rfl rfl (Nat.le_of_ble_eq_true rfl) h (fun v5 h => ?_)
      refine G.if_ne 26 dX11_stand_21 (by decide) h (fun c6 h => ?_) (fun c6 h => ?_)
      · refine G.iconst (-1 : Int32) dX11_stand_24 ki_m1 ?_
        exact G.iret dX11_stand_25 rfl (rfl) h
      · refine G.iload_n dX11_stand_26 rfl rfl ?_
        refine G.aload_n dX11_stand_27 rfl rfl ?_
        refine G.getR dX11_stand_28 fkX11_46 fr11_6 h (fun v7 h => ?_)
        refine G.iload_n dX11_stand_31 rfl rfl ?_
        refine G.iload_n dX11_stand_32 rfl rfl ?_
        refine G.callVi (ci := 10) [.int a1, .int a2] [.int a3] dX11_stand_33 lkX11_156 okX10_hearers rfl (fun v hv => C_X10_hearers hv) (Nat.le_of_ble_eq_true rfl) rfl rfl (Nat.le_of_ble_eq_true rfl) h (fun v8 h => ?_)
        refine G.iconst (-1 : Int32) dX11_stand_36 ki_m1 ?_
        refine G.ixor dX11_stand_37 ?_
        refine G.iand dX11_stand_38 ?_
        exact G.iret dX11_stand_39 rfl (rfl) h
-- OnlyUpward.best(III)I
set_option maxRecDepth 100000 in
set_option maxHeartbeats 4000000 in
def F_X11_best (n : Nat) (M : AM) (a0 : Nat) (a1 : Int32) (a2 : Int32) (a3 : Int32) : Option Int32 :=
  (rcv 11 M a0 (F_X11_isOne n M a0 (1 : Int32) a1)).bind fun v1 => if v1 = 0 then some (-1 : Int32) else (F_X11_isHour n M a2).bind fun v3 => if v3 = 0 then some (-1 : Int32) else (rcv 11 M a0 (F_X11_isSet n M a0 a3)).bind fun v5 => if v5 = 0 then some (-1 : Int32) else (iter (fun (s7 : Int32) => if (24 : Int32) ≤ s7 then some (.inr (.inl ())) else (gR 11 6 M a0).bind fun v9 => (gR 11 6 M a0).bind fun v10 => (rcv 10 M v10 (F_X10_placeOf n M v10 a1 s7)).bind fun v11 => (rcv 10 M v9 (F_X10_hearers n M v9 v11 s7)).bind fun v12 => jn (some (.inl (s7 + (1 : Int32)))) fun j13 => if (a3 &&& (v12 ^^^ (-1 : Int32))) = 0 then (gR 11 6 M a0).bind fun v15 => (rcv 10 M v15 (F_X10_sayTo n M v15 a1 s7)).bind fun v16 => if v16 = 0 then j13 else some (.inr (.inr s7)) else j13) n a2).bind fun (z7 : (Unit) ⊕ Int32) => Sum.elim (fun (e7 : Unit) => some (-2 : Int32)) (fun (v : Int32) => some v) z7
set_option maxRecDepth 100000 in
set_option maxHeartbeats 4000000 in
theorem C_X11_best {n : Nat} {M : AM} {a0 : Nat} {a1 : Int32} {a2 : Int32} {a3 : Int32} {o : Int32} (h : F_X11_best n M a0 a1 a2 a3 = some o) : Cn yX11_best cX11_best 6 (some .int) 1 [.ref a0, .int a1, .int a2, .int a3] M (some (.int o)) M := by
  unfold F_X11_best at h
  refine Cn.of rfl (Nat.le_of_ble_eq_true rfl) ?_
  show G yX11_best cX11_best 6 (some .int) 1 0 [(0, .ref a0), (1, .int a1), (2, .int a2), (3, .int a3)] [] M (some (.int o)) M
  refine G.aload_n dX11_best_0 rfl rfl ?_
  refine G.iconst (1 : Int32) dX11_best_1 ki_1 ?_
  refine G.iload_n dX11_best_2 rfl rfl ?_
  refine G.callVi (ci := 11) [.int (1 : Int32), .int a1] [] dX11_best_3 lkX11_141 okX11_isOne rfl (fun v hv => C_X11_isOne hv) (Nat.le_of_ble_eq_true rfl) rfl rfl (Nat.le_of_ble_eq_true rfl) h (fun v1 h => ?_)
  refine G.if_eq 24 dX11_best_6 (by decide) h (fun c2 h => ?_) (fun c2 h => ?_)
  · refine G.iconst (-1 : Int32) dX11_best_24 ki_m1 ?_
    exact G.iret dX11_best_25 rfl (rfl) h
  · refine G.iload_n dX11_best_9 rfl rfl ?_
    refine G.callSi [.int a2] [] dX11_best_10 lkX11_145 okX11_isHour (fun v hv => C_X11_isHour hv) (Nat.le_of_ble_eq_true rfl) rfl rfl (Nat.le_of_ble_eq_true rfl) h (fun v3 h => ?_)
    refine G.if_eq 24 dX11_best_13 (by decide) h (fun c4 h => ?_) (fun c4 h => ?_)
    · refine G.iconst (-1 : Int32) dX11_best_24 ki_m1 ?_
      exact G.iret dX11_best_25 rfl (rfl) h
    · refine G.aload_n dX11_best_16 rfl rfl ?_
      refine G.iload_n dX11_best_17 rfl rfl ?_
      refine G.callVi (ci := 11) [.int a3] [] dX11_best_18 lkX11_273 okX11_isSet rfl (fun v hv => C_X11_isSet hv) (Nat.le_of_ble_eq_true rfl) rfl rfl (Nat.le_of_ble_eq_true rfl) h (fun v5 h => ?_)
      refine G.if_ne 26 dX11_best_21 (by decide) h (fun c6 h => ?_) (fun c6 h => ?_)
      · refine G.iconst (-1 : Int32) dX11_best_24 ki_m1 ?_
        exact G.iret dX11_best_25 rfl (rfl) h
      · refine G.iload_n dX11_best_26 rfl rfl ?_
        refine G.istore (lv' := [(4, .int a2), (0, .ref a0), (1, .int a1), (2, .int a2), (3, .int a3)]) dX11_best_27 (Nat.le_of_ble_eq_true rfl) rfl ?_
        refine G.sub (lv' := [(0, .ref a0), (1, .int a1), (3, .int a3), (4, .int a2)]) [1, 2, 4, 0] rfl ?_
        refine loopE (fun (s7 : Int32) => G yX11_best cX11_best 6 (some .int) 1 29 [(0, .ref a0), (1, .int a1), (3, .int a3), (4, .int s7)] [] M (some (.int o)) M) (fun (z7 : (Unit) ⊕ Int32) => Sum.elim (fun (e7 : Unit) => G yX11_best cX11_best 6 (some .int) 1 88 [] [] M (some (.int o)) M) (fun (v : Int32) => some v = some o) z7) h ?_ ?_
        · intro z7 h
          rcases z7 with e7 | v
          · have h := sum_inl h
            show G yX11_best cX11_best 6 (some .int) 1 88 [] [] M (some (.int o)) M
            refine G.bipush (-2 : Int32) dX11_best_88 kb_m2 ?_
            exact G.iret dX11_best_90 rfl (rfl) h
          · have h := sum_inr h
            exact h
        · intro s7 x7 h K7
          show G yX11_best cX11_best 6 (some .int) 1 29 [(0, .ref a0), (1, .int a1), (3, .int a3), (4, .int s7)] [] M (some (.int o)) M
          refine G.iload dX11_best_29 rfl ?_
          refine G.bipush (24 : Int32) dX11_best_31 kb_24 ?_
          refine G.icmp_ge 88 dX11_best_33 (by decide) h (fun c8 h => ?_) (fun c8 h => ?_)
          · refine G.sub (lv' := []) [] rfl ?_
            have h := leafR' h K7
            exact h
          · refine G.aload_n dX11_best_36 rfl rfl ?_
            refine G.getR dX11_best_37 fkX11_46 fr11_6 h (fun v9 h => ?_)
            refine G.aload_n dX11_best_40 rfl rfl ?_
            refine G.getR dX11_best_41 fkX11_46 fr11_6 h (fun v10 h => ?_)
            refine G.iload_n dX11_best_44 rfl rfl ?_
            refine G.iload dX11_best_45 rfl ?_
            refine G.callVi (ci := 10) [.int a1, .int s7] [.ref v9] dX11_best_47 lkX11_153 okX10_placeOf rfl (fun v hv => C_X10_placeOf hv) (Nat.le_of_ble_eq_true rfl) rfl rfl (Nat.le_of_ble_eq_true rfl) h (fun v11 h => ?_)
            refine G.iload dX11_best_50 rfl ?_
            refine G.callVi (ci := 10) [.int v11, .int s7] [] dX11_best_52 lkX11_156 okX10_hearers rfl (fun v hv => C_X10_hearers hv) (Nat.le_of_ble_eq_true rfl) rfl rfl (Nat.le_of_ble_eq_true rfl) h (fun v12 h => ?_)
            refine G.istore (lv' := [(5, .int v12), (0, .ref a0), (1, .int a1), (3, .int a3), (4, .int s7)]) dX11_best_55 (Nat.le_of_ble_eq_true rfl) rfl ?_
            refine G.iload_n dX11_best_57 rfl rfl ?_
            refine G.iload dX11_best_58 rfl ?_
            refine G.iconst (-1 : Int32) dX11_best_60 ki_m1 ?_
            refine G.ixor dX11_best_61 ?_
            refine G.iand dX11_best_62 ?_
            refine jn_elim (fun j13 => j13 = some x7 → G yX11_best cX11_best 6 (some .int) 1 82 [(0, .ref a0), (1, .int a1), (3, .int a3), (4, .int s7)] [] M (some (.int o)) M) h ?_ ?_
            · intro h
              refine G.iinc s7 (w := (s7 + (1 : Int32))) (lv' := [(4, .int (s7 + (1 : Int32))), (0, .ref a0), (1, .int a1), (3, .int a3)]) dX11_best_82 rfl rfl (Nat.le_of_ble_eq_true rfl) rfl ?_
              refine G.goto 29 dX11_best_85 (by decide) ?_
              refine G.sub (lv' := [(0, .ref a0), (1, .int a1), (3, .int a3), (4, .int (s7 + (1 : Int32)))]) [1, 2, 3, 0] rfl ?_
              have h := leafL' h K7
              exact h
            · intro j13 Jj13 h
              refine G.if_ne 82 dX11_best_63 (by decide) h (fun c14 h => ?_) (fun c14 h => ?_)
              · refine G.aload_n dX11_best_66 rfl rfl ?_
                refine G.getR dX11_best_67 fkX11_46 fr11_6 h (fun v15 h => ?_)
                refine G.iload_n dX11_best_70 rfl rfl ?_
                refine G.iload dX11_best_71 rfl ?_
                refine G.callVi (ci := 10) [.int a1, .int s7] [] dX11_best_73 lkX11_324 okX10_sayTo rfl (fun v hv => C_X10_sayTo hv) (Nat.le_of_ble_eq_true rfl) rfl rfl (Nat.le_of_ble_eq_true rfl) h (fun v16 h => ?_)
                refine G.if_eq 82 dX11_best_76 (by decide) h (fun c17 h => ?_) (fun c17 h => ?_)
                · refine G.sub (lv' := [(0, .ref a0), (1, .int a1), (3, .int a3), (4, .int s7)]) [1, 2, 3, 4] rfl ?_
                  exact Jj13  h
                · refine G.iload dX11_best_79 rfl ?_
                  have h := leafR' h K7
                  exact G.iret dX11_best_81 rfl (rfl) h
              · refine G.sub (lv' := [(0, .ref a0), (1, .int a1), (3, .int a3), (4, .int s7)]) [1, 2, 3, 4] rfl ?_
                exact Jj13  h
-- OnlyUpward.onlyWith(LOnlyUpward$Knowledge;II)I
set_option maxRecDepth 100000 in
set_option maxHeartbeats 4000000 in
def F_X11_onlyWith (n : Nat) (M : AM) (a0 : Nat) (a1 : Nat) (a2 : Int32) (a3 : Int32) : Option Int32 :=
  (rcv 3 M a1 (F_X3_thingsOf n M a1 a2 a3)).bind fun v1 => (iter (fun (s2 : Int32 × Int32) => (gR 11 6 M a0).bind fun v3 => (gR 10 0 M v3).bind fun v4 => (rdI M v4 (1 : Int32)).bind fun v5 => if v5 ≤ s2.2 then some (.inr s2.1) else jn (fun (u7 : Int32) => some (.inl (u7, (s2.2 + (1 : Int32))))) fun j8 => if s2.2 = a2 then j8 s2.1 else (rcv 3 M a1 (F_X3_thingsOf n M a1 s2.2 a3)).bind fun v10 => j8 (s2.1 &&& (v10 ^^^ (-1 : Int32)))) n (v1, (0 : Int32))).bind fun (e2 : Int32) => some e2
set_option maxRecDepth 100000 in
set_option maxHeartbeats 4000000 in
theorem C_X11_onlyWith {n : Nat} {M : AM} {a0 : Nat} {a1 : Nat} {a2 : Int32} {a3 : Int32} {o : Int32} (h : F_X11_onlyWith n M a0 a1 a2 a3 = some o) : Cn yX11_onlyWith cX11_onlyWith 6 (some .int) 3 [.ref a0, .ref a1, .int a2, .int a3] M (some (.int o)) M := by
  unfold F_X11_onlyWith at h
  refine Cn.of rfl (Nat.le_of_ble_eq_true rfl) ?_
  show G yX11_onlyWith cX11_onlyWith 6 (some .int) 3 0 [(0, .ref a0), (1, .ref a1), (2, .int a2), (3, .int a3)] [] M (some (.int o)) M
  refine G.aload_n dX11_onlyWith_0 rfl rfl ?_
  refine G.iload_n dX11_onlyWith_1 rfl rfl ?_
  refine G.iload_n dX11_onlyWith_2 rfl rfl ?_
  refine G.callVi (ci := 3) [.int a2, .int a3] [] dX11_onlyWith_3 lkX11_226 okX3_thingsOf rfl (fun v hv => C_X3_thingsOf hv) (Nat.le_of_ble_eq_true rfl) rfl rfl (Nat.le_of_ble_eq_true rfl) h (fun v1 h => ?_)
  refine G.istore (lv' := [(4, .int v1), (0, .ref a0), (1, .ref a1), (2, .int a2), (3, .int a3)]) dX11_onlyWith_6 (Nat.le_of_ble_eq_true rfl) rfl ?_
  refine G.iconst (0 : Int32) dX11_onlyWith_8 ki_0 ?_
  refine G.istore (lv' := [(5, .int (0 : Int32)), (4, .int v1), (0, .ref a0), (1, .ref a1), (2, .int a2), (3, .int a3)]) dX11_onlyWith_9 (Nat.le_of_ble_eq_true rfl) rfl ?_
  refine G.sub (lv' := [(0, .ref a0), (1, .ref a1), (2, .int a2), (3, .int a3), (4, .int v1), (5, .int (0 : Int32))]) [2, 3, 4, 5, 1, 0] rfl ?_
  refine loopE (fun (s2 : Int32 × Int32) => G yX11_onlyWith cX11_onlyWith 6 (some .int) 3 11 [(0, .ref a0), (1, .ref a1), (2, .int a2), (3, .int a3), (4, .int s2.1), (5, .int s2.2)] [] M (some (.int o)) M) (fun (e2 : Int32) => G yX11_onlyWith cX11_onlyWith 6 (some .int) 3 51 [(4, .int e2)] [] M (some (.int o)) M) h ?_ ?_
  · intro e2 h
    show G yX11_onlyWith cX11_onlyWith 6 (some .int) 3 51 [(4, .int e2)] [] M (some (.int o)) M
    refine G.iload dX11_onlyWith_51 rfl ?_
    exact G.iret dX11_onlyWith_53 rfl (rfl) h
  · intro s2 x2 h K2
    show G yX11_onlyWith cX11_onlyWith 6 (some .int) 3 11 [(0, .ref a0), (1, .ref a1), (2, .int a2), (3, .int a3), (4, .int s2.1), (5, .int s2.2)] [] M (some (.int o)) M
    refine G.iload dX11_onlyWith_11 rfl ?_
    refine G.aload_n dX11_onlyWith_13 rfl rfl ?_
    refine G.getR dX11_onlyWith_14 fkX11_46 fr11_6 h (fun v3 h => ?_)
    refine G.getR dX11_onlyWith_17 fkX11_137 fr10_0 h (fun v4 h => ?_)
    refine G.iconst (1 : Int32) dX11_onlyWith_20 ki_1 ?_
    refine G.iald dX11_onlyWith_21 h (fun v5 h => ?_)
    refine G.icmp_ge 51 dX11_onlyWith_22 (by decide) h (fun c6 h => ?_) (fun c6 h => ?_)
    · refine G.sub (lv' := [(4, .int s2.1)]) [4] rfl ?_
      have h := leafR' h K2
      exact h
    · refine G.iload dX11_onlyWith_25 rfl ?_
      refine G.iload_n dX11_onlyWith_27 rfl rfl ?_
      refine jn_elim (fun j8 => ∀ (u7 : Int32), j8 u7 = some x2 → G yX11_onlyWith cX11_onlyWith 6 (some .int) 3 45 [(0, .ref a0), (1, .ref a1), (2, .int a2), (3, .int a3), (4, .int u7), (5, .int s2.2)] [] M (some (.int o)) M) h ?_ ?_
      · intro u7 h
        refine G.iinc s2.2 (w := (s2.2 + (1 : Int32))) (lv' := [(5, .int (s2.2 + (1 : Int32))), (0, .ref a0), (1, .ref a1), (2, .int a2), (3, .int a3), (4, .int u7)]) dX11_onlyWith_45 rfl rfl (Nat.le_of_ble_eq_true rfl) rfl ?_
        refine G.goto 11 dX11_onlyWith_48 (by decide) ?_
        refine G.sub (lv' := [(0, .ref a0), (1, .ref a1), (2, .int a2), (3, .int a3), (4, .int u7), (5, .int (s2.2 + (1 : Int32)))]) [1, 2, 3, 4, 5, 0] rfl ?_
        have h := leafL' h K2
        exact h
      · intro j8 Jj8 h
        refine G.icmp_eq 45 dX11_onlyWith_28 (by decide) h (fun c9 h => ?_) (fun c9 h => ?_)
        · refine G.sub (lv' := [(0, .ref a0), (1, .ref a1), (2, .int a2), (3, .int a3), (4, .int s2.1), (5, .int s2.2)]) [0, 1, 2, 3, 4, 5] rfl ?_
          exact Jj8 _ h
        · refine G.iload dX11_onlyWith_31 rfl ?_
          refine G.aload_n dX11_onlyWith_33 rfl rfl ?_
          refine G.iload dX11_onlyWith_34 rfl ?_
          refine G.iload_n dX11_onlyWith_36 rfl rfl ?_
          refine G.callVi (ci := 3) [.int s2.2, .int a3] [.int s2.1] dX11_onlyWith_37 lkX11_226 okX3_thingsOf rfl (fun v hv => C_X3_thingsOf hv) (Nat.le_of_ble_eq_true rfl) rfl rfl (Nat.le_of_ble_eq_true rfl) h (fun v10 h => ?_)
          refine G.iconst (-1 : Int32) dX11_onlyWith_40 ki_m1 ?_
          refine G.ixor dX11_onlyWith_41 ?_
          refine G.iand dX11_onlyWith_42 ?_
          refine G.istore (lv' := [(4, .int (s2.1 &&& (v10 ^^^ (-1 : Int32)))), (0, .ref a0), (1, .ref a1), (2, .int a2), (3, .int a3), (5, .int s2.2)]) dX11_onlyWith_43 (Nat.le_of_ble_eq_true rfl) rfl ?_
          refine G.sub (lv' := [(0, .ref a0), (1, .ref a1), (2, .int a2), (3, .int a3), (4, .int (s2.1 &&& (v10 ^^^ (-1 : Int32)))), (5, .int s2.2)]) [1, 2, 3, 4, 0, 5] rfl ?_
          exact Jj8 _ h
-- OnlyUpward.lost(II)I
set_option maxRecDepth 100000 in
set_option maxHeartbeats 4000000 in
def F_X11_lost (n : Nat) (M : AM) (a0 : Nat) (a1 : Int32) (a2 : Int32) : Option (Int32 × AM) :=
  (rcv 11 M a0 (F_X11_isOne n M a0 (1 : Int32) a1)).bind fun v1 => if v1 = 0 then some ((-1 : Int32), M) else (F_X11_isHourOrEnd n M a2).bind fun v3 => if v3 = 0 then some ((-1 : Int32), M) else (rcv 11 M a0 (F_X11_planCourse n M a0)).bind fun v5 => (gR 1 0 v5.2 v5.1).bind fun v6 => (rcv 11 v5.2 a0 (F_X11_onlyWith n v5.2 a0 v6 a1 a2)).bind fun v7 => some (v7, v5.2)
set_option maxRecDepth 100000 in
set_option maxHeartbeats 4000000 in
theorem C_X11_lost {n : Nat} {M : AM} {a0 : Nat} {a1 : Int32} {a2 : Int32} {o : (Int32 × AM)} (h : F_X11_lost n M a0 a1 a2 = some o) : Cn yX11_lost cX11_lost 3 (some .int) 7 [.ref a0, .int a1, .int a2] M (some (.int o.1)) o.2 := by
  unfold F_X11_lost at h
  refine Cn.of rfl (Nat.le_of_ble_eq_true rfl) ?_
  show G yX11_lost cX11_lost 3 (some .int) 7 0 [(0, .ref a0), (1, .int a1), (2, .int a2)] [] M (some (.int o.1)) o.2
  refine G.aload_n dX11_lost_0 rfl rfl ?_
  refine G.iconst (1 : Int32) dX11_lost_1 ki_1 ?_
  refine G.iload_n dX11_lost_2 rfl rfl ?_
  refine G.callVi (ci := 11) [.int (1 : Int32), .int a1] [] dX11_lost_3 lkX11_141 okX11_isOne rfl (fun v hv => C_X11_isOne hv) (Nat.le_of_ble_eq_true rfl) rfl rfl (Nat.le_of_ble_eq_true rfl) h (fun v1 h => ?_)
  refine G.if_eq 16 dX11_lost_6 (by decide) h (fun c2 h => ?_) (fun c2 h => ?_)
  · refine G.iconst (-1 : Int32) dX11_lost_16 ki_m1 ?_
    exact G.iretW dX11_lost_17 rfl (rfl) h
  · refine G.iload_n dX11_lost_9 rfl rfl ?_
    refine G.callSi [.int a2] [] dX11_lost_10 lkX11_219 okX11_isHourOrEnd (fun v hv => C_X11_isHourOrEnd hv) (Nat.le_of_ble_eq_true rfl) rfl rfl (Nat.le_of_ble_eq_true rfl) h (fun v3 h => ?_)
    refine G.if_ne 18 dX11_lost_13 (by decide) h (fun c4 h => ?_) (fun c4 h => ?_)
    · refine G.iconst (-1 : Int32) dX11_lost_16 ki_m1 ?_
      exact G.iretW dX11_lost_17 rfl (rfl) h
    · refine G.aload_n dX11_lost_18 rfl rfl ?_
      refine G.aload_n dX11_lost_19 rfl rfl ?_
      refine G.callVr (ci := 11) [] [.ref a0] dX11_lost_20 lkX11_189 okX11_planCourse rfl (fun v hv => C_X11_planCourse hv) (Nat.le_of_ble_eq_true rfl) rfl rfl (Nat.le_of_ble_eq_true rfl) h (fun v5 h => ?_)
      refine G.getR dX11_lost_23 fkX11_222 fr1_0 h (fun v6 h => ?_)
      refine G.iload_n dX11_lost_26 rfl rfl ?_
      refine G.iload_n dX11_lost_27 rfl rfl ?_
      refine G.callVi (ci := 11) [.ref v6, .int a1, .int a2] [] dX11_lost_28 lkX11_241 okX11_onlyWith rfl (fun v hv => C_X11_onlyWith hv) (Nat.le_of_ble_eq_true rfl) rfl rfl (Nat.le_of_ble_eq_true rfl) h (fun v7 h => ?_)
      exact G.iretW dX11_lost_31 rfl (rfl) h
-- OnlyUpward.before(II)I
set_option maxRecDepth 100000 in
set_option maxHeartbeats 4000000 in
def F_X11_before (n : Nat) (M : AM) (a0 : Nat) (a1 : Int32) (a2 : Int32) : Option (Int32 × AM) :=
  (rcv 11 M a0 (F_X11_isOne n M a0 (1 : Int32) a1)).bind fun v1 => if v1 = 0 then some ((-1 : Int32), M) else (F_X11_isHourOrEnd n M a2).bind fun v3 => if v3 = 0 then some ((-1 : Int32), M) else (rcv 11 M a0 (F_X11_planCourse n M a0)).bind fun v5 => (gR 1 0 v5.2 v5.1).bind fun v6 => (rcv 11 v5.2 a0 (F_X11_onlyWith n v5.2 a0 v6 a1 a2)).bind fun v7 => (iter (fun (s8 : Int32 × Int32) => (gR 11 6 v5.2 a0).bind fun v9 => (gR 10 0 v5.2 v9).bind fun v10 => (rdI v5.2 v10 (2 : Int32)).bind fun v11 => if v11 ≤ s8.2 then some (.inr s8.1) else jn (fun (u13 : Int32) => (F_X11_hasBit n v5.2 v7 s8.2).bind fun v14 => jn (fun (u15 : Int32) => some (.inl (u15, (s8.2 + (1 : Int32))))) fun j16 => if v14 = 0 then j16 s8.1 else if u13 = 0 then j16 s8.1 else j16 s8.2) fun j19 => jn (j19 (1 : Int32)) fun j20 => if s8.1 = (-2 : Int32) then j20 else (gR 11 6 v5.2 a0).bind fun v22 => (gR 10 3 v5.2 v22).bind fun v23 => (rdI v5.2 v23 s8.2).bind fun v24 => (gR 11 6 v5.2 a0).bind fun v25 => (gR 10 3 v5.2 v25).bind fun v26 => (rdI v5.2 v26 s8.1).bind fun v27 => if v24 ≤ v27 then j19 (0 : Int32) else j20) n ((-2 : Int32), (0 : Int32))).bind fun (e8 : Int32) => some (e8, v5.2)
set_option maxRecDepth 100000 in
set_option maxHeartbeats 4000000 in
theorem C_X11_before {n : Nat} {M : AM} {a0 : Nat} {a1 : Int32} {a2 : Int32} {o : (Int32 × AM)} (h : F_X11_before n M a0 a1 a2 = some o) : Cn yX11_before cX11_before 7 (some .int) 7 [.ref a0, .int a1, .int a2] M (some (.int o.1)) o.2 := by
  unfold F_X11_before at h
  refine Cn.of rfl (Nat.le_of_ble_eq_true rfl) ?_
  show G yX11_before cX11_before 7 (some .int) 7 0 [(0, .ref a0), (1, .int a1), (2, .int a2)] [] M (some (.int o.1)) o.2
  refine G.aload_n dX11_before_0 rfl rfl ?_
  refine G.iconst (1 : Int32) dX11_before_1 ki_1 ?_
  refine G.iload_n dX11_before_2 rfl rfl ?_
  refine G.callVi (ci := 11) [.int (1 : Int32), .int a1] [] dX11_before_3 lkX11_141 okX11_isOne rfl (fun v hv => C_X11_isOne hv) (Nat.le_of_ble_eq_true rfl) rfl rfl (Nat.le_of_ble_eq_true rfl) h (fun v1 h => ?_)
  refine G.if_eq 16 dX11_before_6 (by decide) h (fun c2 h => ?_) (fun c2 h => ?_)
  · refine G.iconst (-1 : Int32) dX11_before_16 ki_m1 ?_
    exact G.iretW dX11_before_17 rfl (rfl) h
  · refine G.iload_n dX11_before_9 rfl rfl ?_
    refine G.callSi [.int a2] [] dX11_before_10 lkX11_219 okX11_isHourOrEnd (fun v hv => C_X11_isHourOrEnd hv) (Nat.le_of_ble_eq_true rfl) rfl rfl (Nat.le_of_ble_eq_true rfl) h (fun v3 h => ?_)
    refine G.if_ne 18 dX11_before_13 (by decide) h (fun c4 h => ?_) (fun c4 h => ?_)
    · refine G.iconst (-1 : Int32) dX11_before_16 ki_m1 ?_
      exact G.iretW dX11_before_17 rfl (rfl) h
    · refine G.aload_n dX11_before_18 rfl rfl ?_
      refine G.aload_n dX11_before_19 rfl rfl ?_
      refine G.callVr (ci := 11) [] [.ref a0] dX11_before_20 lkX11_189 okX11_planCourse rfl (fun v hv => C_X11_planCourse hv) (Nat.le_of_ble_eq_true rfl) rfl rfl (Nat.le_of_ble_eq_true rfl) h (fun v5 h => ?_)
      refine G.getR dX11_before_23 fkX11_222 fr1_0 h (fun v6 h => ?_)
      refine G.iload_n dX11_before_26 rfl rfl ?_
      refine G.iload_n dX11_before_27 rfl rfl ?_
      refine G.callVi (ci := 11) [.ref v6, .int a1, .int a2] [] dX11_before_28 lkX11_241 okX11_onlyWith rfl (fun v hv => C_X11_onlyWith hv) (Nat.le_of_ble_eq_true rfl) rfl rfl (Nat.le_of_ble_eq_true rfl) h (fun v7 h => ?_)
      refine G.istore_n (lv' := [(3, .int v7), (0, .ref a0), (1, .int a1), (2, .int a2)]) dX11_before_31 rfl (Nat.le_of_ble_eq_true rfl) rfl ?_
      refine G.bipush (-2 : Int32) dX11_before_32 kb_m2 ?_
      refine G.istore (lv' := [(4, .int (-2 : Int32)), (3, .int v7), (0, .ref a0), (1, .int a1), (2, .int a2)]) dX11_before_34 (Nat.le_of_ble_eq_true rfl) rfl ?_
      refine G.iconst (0 : Int32) dX11_before_36 ki_0 ?_
      refine G.istore (lv' := [(5, .int (0 : Int32)), (4, .int (-2 : Int32)), (3, .int v7), (0, .ref a0), (1, .int a1), (2, .int a2)]) dX11_before_37 (Nat.le_of_ble_eq_true rfl) rfl ?_
      refine G.sub (lv' := [(0, .ref a0), (3, .int v7), (4, .int (-2 : Int32)), (5, .int (0 : Int32))]) [3, 2, 1, 0] rfl ?_
      refine loopE (fun (s8 : Int32 × Int32) => G yX11_before cX11_before 7 (some .int) 7 39 [(0, .ref a0), (3, .int v7), (4, .int s8.1), (5, .int s8.2)] [] v5.2 (some (.int o.1)) o.2) (fun (e8 : Int32) => G yX11_before cX11_before 7 (some .int) 7 114 [(4, .int e8)] [] v5.2 (some (.int o.1)) o.2) h ?_ ?_
      · intro e8 h
        show G yX11_before cX11_before 7 (some .int) 7 114 [(4, .int e8)] [] v5.2 (some (.int o.1)) o.2
        refine G.iload dX11_before_114 rfl ?_
        exact G.iretW dX11_before_116 rfl (rfl) h
      · intro s8 x8 h K8
        show G yX11_before cX11_before 7 (some .int) 7 39 [(0, .ref a0), (3, .int v7), (4, .int s8.1), (5, .int s8.2)] [] v5.2 (some (.int o.1)) o.2
        refine G.iload dX11_before_39 rfl ?_
        refine G.aload_n dX11_before_41 rfl rfl ?_
        refine G.getR dX11_before_42 fkX11_46 fr11_6 h (fun v9 h => ?_)
        refine G.getR dX11_before_45 fkX11_137 fr10_0 h (fun v10 h => ?_)
        refine G.iconst (2 : Int32) dX11_before_48 ki_2 ?_
        refine G.iald dX11_before_49 h (fun v11 h => ?_)
        refine G.icmp_ge 114 dX11_before_50 (by decide) h (fun c12 h => ?_) (fun c12 h => ?_)
        · refine G.sub (lv' := [(4, .int s8.1)]) [2] rfl ?_
          have h := leafR' h K8
          exact h
        · refine G.iload dX11_before_53 rfl ?_
          refine G.bipush (-2 : Int32) dX11_before_55 kb_m2 ?_
          refine jn_elim (fun j19 => ∀ (u13 : Int32), j19 u13 = some x8 → G yX11_before cX11_before 7 (some .int) 7 88 [(0, .ref a0), (3, .int v7), (4, .int s8.1), (5, .int s8.2)] [.int u13] v5.2 (some (.int o.1)) o.2) h ?_ ?_
          · intro u13 h
            refine G.istore (lv' := [(6, .int u13), (0, .ref a0), (3, .int v7), (4, .int s8.1), (5, .int s8.2)]) dX11_before_88 (Nat.le_of_ble_eq_true rfl) rfl ?_
            refine G.iload_n dX11_before_90 rfl rfl ?_
            refine G.iload dX11_before_91 rfl ?_
            refine G.callSi [.int v7, .int s8.2] [] dX11_before_93 lkX11_248 okX11_hasBit (fun v hv => C_X11_hasBit hv) (Nat.le_of_ble_eq_true rfl) rfl rfl (Nat.le_of_ble_eq_true rfl) h (fun v14 h => ?_)
            refine jn_elim (fun j16 => ∀ (u15 : Int32), j16 u15 = some x8 → G yX11_before cX11_before 7 (some .int) 7 108 [(0, .ref a0), (3, .int v7), (4, .int u15), (5, .int s8.2)] [] v5.2 (some (.int o.1)) o.2) h ?_ ?_
            · intro u15 h
              refine G.iinc s8.2 (w := (s8.2 + (1 : Int32))) (lv' := [(5, .int (s8.2 + (1 : Int32))), (0, .ref a0), (3, .int v7), (4, .int u15)]) dX11_before_108 rfl rfl (Nat.le_of_ble_eq_true rfl) rfl ?_
              refine G.goto 39 dX11_before_111 (by decide) ?_
              refine G.sub (lv' := [(0, .ref a0), (3, .int v7), (4, .int u15), (5, .int (s8.2 + (1 : Int32)))]) [1, 2, 3, 0] rfl ?_
              have h := leafL' h K8
              exact h
            · intro j16 Jj16 h
              refine G.if_eq 108 dX11_before_96 (by decide) h (fun c17 h => ?_) (fun c17 h => ?_)
              · refine G.sub (lv' := [(0, .ref a0), (3, .int v7), (4, .int s8.1), (5, .int s8.2)]) [1, 2, 3, 4] rfl ?_
                exact Jj16 _ h
              · refine G.iload dX11_before_99 rfl ?_
                refine G.if_eq 108 dX11_before_101 (by decide) h (fun c18 h => ?_) (fun c18 h => ?_)
                · refine G.sub (lv' := [(0, .ref a0), (3, .int v7), (4, .int s8.1), (5, .int s8.2)]) [1, 2, 3, 4] rfl ?_
                  exact Jj16 _ h
                · refine G.iload dX11_before_104 rfl ?_
                  refine G.istore (lv' := [(4, .int s8.2), (6, .int u13), (0, .ref a0), (3, .int v7), (5, .int s8.2)]) dX11_before_106 (Nat.le_of_ble_eq_true rfl) rfl ?_
                  refine G.sub (lv' := [(0, .ref a0), (3, .int v7), (4, .int s8.2), (5, .int s8.2)]) [2, 3, 0, 4] rfl ?_
                  exact Jj16 _ h
          · intro j19 Jj19 h
            refine jn_elim (fun j20 => j20 = some x8 → G yX11_before cX11_before 7 (some .int) 7 83 [(0, .ref a0), (3, .int v7), (4, .int s8.1), (5, .int s8.2)] [] v5.2 (some (.int o.1)) o.2) h ?_ ?_
            · intro h
              refine G.iconst (1 : Int32) dX11_before_83 ki_1 ?_
              refine G.goto 88 dX11_before_84 (by decide) ?_
              refine G.sub (lv' := [(0, .ref a0), (3, .int v7), (4, .int s8.1), (5, .int s8.2)]) [0, 1, 2, 3] rfl ?_
              exact Jj19 _ h
            · intro j20 Jj20 h
              refine G.icmp_eq 83 dX11_before_57 (by decide) h (fun c21 h => ?_) (fun c21 h => ?_)
              · refine G.sub (lv' := [(0, .ref a0), (3, .int v7), (4, .int s8.1), (5, .int s8.2)]) [0, 1, 2, 3] rfl ?_
                exact Jj20  h
              · refine G.aload_n dX11_before_60 rfl rfl ?_
                refine G.getR dX11_before_61 fkX11_46 fr11_6 h (fun v22 h => ?_)
                refine G.getR dX11_before_64 fkX11_245 fr10_3 h (fun v23 h => ?_)
                refine G.iload dX11_before_67 rfl ?_
                refine G.iald dX11_before_69 h (fun v24 h => ?_)
                refine G.aload_n dX11_before_70 rfl rfl ?_
                refine G.getR dX11_before_71 fkX11_46 fr11_6 h (fun v25 h => ?_)
                refine G.getR dX11_before_74 fkX11_245 fr10_3 h (fun v26 h => ?_)
                refine G.iload dX11_before_77 rfl ?_
                refine G.iald dX11_before_79 h (fun v27 h => ?_)
                refine G.icmp_le 87 dX11_before_80 (by decide) h (fun c28 h => ?_) (fun c28 h => ?_)
                · refine G.iconst (0 : Int32) dX11_before_87 ki_0 ?_
                  refine G.sub (lv' := [(0, .ref a0), (3, .int v7), (4, .int s8.1), (5, .int s8.2)]) [0, 1, 2, 3] rfl ?_
                  exact Jj19 _ h
                · refine G.sub (lv' := [(0, .ref a0), (3, .int v7), (4, .int s8.1), (5, .int s8.2)]) [0, 1, 2, 3] rfl ?_
                  exact Jj20  h
-- OnlyUpward$Knowledge.misses(LOnlyUpward$World;I)Z
set_option maxRecDepth 100000 in
set_option maxHeartbeats 4000000 in
def F_X3_misses (n : Nat) (M : AM) (a0 : Nat) (a1 : Nat) (a2 : Int32) : Option Int32 :=
  (gR 10 6 M a1).bind fun v1 => (rdI M v1 a2).bind fun v2 => (gR 10 7 M a1).bind fun v3 => (rdI M v3 a2).bind fun v4 => (gR 10 8 M a1).bind fun v5 => (rdI M v5 a2).bind fun v6 => (rcv 3 M a0 (F_X3_has n M a0 v2 v4 v6)).bind fun v7 => if v7 = 0 then some (1 : Int32) else some (0 : Int32)
set_option maxRecDepth 100000 in
set_option maxHeartbeats 4000000 in
theorem C_X3_misses {n : Nat} {M : AM} {a0 : Nat} {a1 : Nat} {a2 : Int32} {o : Int32} (h : F_X3_misses n M a0 a1 a2 = some o) : Cn yX3_misses cX3_misses 3 (some .boolean) 2 [.ref a0, .ref a1, .int a2] M (some (.int o)) M := by
  unfold F_X3_misses at h
  refine Cn.of rfl (Nat.le_of_ble_eq_true rfl) ?_
  show G yX3_misses cX3_misses 3 (some .boolean) 2 0 [(0, .ref a0), (1, .ref a1), (2, .int a2)] [] M (some (.int o)) M
  refine G.aload_n dX3_misses_0 rfl rfl ?_
  refine G.aload_n dX3_misses_1 rfl rfl ?_
  refine G.getR dX3_misses_2 fkX3_32 fr10_6 h (fun v1 h => ?_)
  refine G.iload_n dX3_misses_5 rfl rfl ?_
  refine G.iald dX3_misses_6 h (fun v2 h => ?_)
  refine G.aload_n dX3_misses_7 rfl rfl ?_
  refine G.getR dX3_misses_8 fkX3_35 fr10_7 h (fun v3 h => ?_)
  refine G.iload_n dX3_misses_11 rfl rfl ?_
  refine G.iald dX3_misses_12 h (fun v4 h => ?_)
  refine G.aload_n dX3_misses_13 rfl rfl ?_
  refine G.getR dX3_misses_14 fkX3_38 fr10_8 h (fun v5 h => ?_)
  refine G.iload_n dX3_misses_17 rfl rfl ?_
  refine G.iald dX3_misses_18 h (fun v6 h => ?_)
  refine G.callVi (ci := 3) [.int v2, .int v4, .int v6] [] dX3_misses_19 lkX3_28 okX3_has rfl (fun v hv => C_X3_has hv) (Nat.le_of_ble_eq_true rfl) rfl rfl (Nat.le_of_ble_eq_true rfl) h (fun v7 h => ?_)
  refine G.if_ne 29 dX3_misses_22 (by decide) h (fun c8 h => ?_) (fun c8 h => ?_)
  · refine G.iconst (1 : Int32) dX3_misses_25 ki_1 ?_
    refine G.goto 30 dX3_misses_26 (by decide) ?_
    exact G.iret dX3_misses_30 rfl (by decide) h
  · refine G.iconst (0 : Int32) dX3_misses_29 ki_0 ?_
    exact G.iret dX3_misses_30 rfl (by decide) h
-- OnlyUpward.missed(I)I
set_option maxRecDepth 100000 in
set_option maxHeartbeats 4000000 in
def F_X11_missed (n : Nat) (M : AM) (a0 : Nat) (a1 : Int32) : Option (Int32 × AM) :=
  (rcv 11 M a0 (F_X11_planCourse n M a0)).bind fun v1 => (gR 1 0 v1.2 v1.1).bind fun v2 => (iter (fun (s3 : Int32 × Int32) => (gR 11 6 v1.2 a0).bind fun v4 => (gR 10 0 v1.2 v4).bind fun v5 => (rdI v1.2 v5 (6 : Int32)).bind fun v6 => if v6 ≤ s3.2 then some (.inr (.inl s3.1)) else (gR 11 6 v1.2 a0).bind fun v8 => (rcv 3 v1.2 v2 (F_X3_misses n v1.2 v2 v8 s3.2)).bind fun v9 => jn (fun (u10 : Int32) => some (.inl (u10, (s3.2 + (1 : Int32))))) fun j11 => if v9 = 0 then j11 s3.1 else if s3.1 = a1 then some (.inr (.inr (s3.2, v1.2))) else j11 (s3.1 + (1 : Int32))) n ((0 : Int32), (0 : Int32))).bind fun (z3 : (Int32) ⊕ (Int32 × AM)) => Sum.elim (fun (e3 : Int32) => if a1 = (-1 : Int32) then some (e3, v1.2) else some ((-1 : Int32), v1.2)) (fun (v : (Int32 × AM)) => some v) z3
set_option maxRecDepth 100000 in
set_option maxHeartbeats 4000000 in
theorem C_X11_missed {n : Nat} {M : AM} {a0 : Nat} {a1 : Int32} {o : (Int32 × AM)} (h : F_X11_missed n M a0 a1 = some o) : Cn yX11_missed cX11_missed 5 (some .int) 7 [.ref a0, .int a1] M (some (.int o.1)) o.2 := by
  unfold F_X11_missed at h
  refine Cn.of rfl (Nat.le_of_ble_eq_true rfl) ?_
  show G yX11_missed cX11_missed 5 (some .int) 7 0 [(0, .ref a0), (1, .int a1)] [] M (some (.int o.1)) o.2
  refine G.aload_n dX11_missed_0 rfl rfl ?_
  refine G.callVr (ci := 11) [] [] dX11_missed_1 lkX11_189 okX11_planCourse rfl (fun v hv => C_X11_planCourse hv) (Nat.le_of_ble_eq_true rfl) rfl rfl (Nat.le_of_ble_eq_true rfl) h (fun v1 h => ?_)
  refine G.getR dX11_missed_4 fkX11_222 fr1_0 h (fun v2 h => ?_)
  refine G.astore_n (lv' := [(2, .ref v2), (0, .ref a0), (1, .int a1)]) dX11_missed_7 rfl (Nat.le_of_ble_eq_true rfl) rfl ?_
  refine G.iconst (0 : Int32) dX11_missed_8 ki_0 ?_
  refine G.istore_n (lv' := [(3, .int (0 : Int32)), (2, .ref v2), (0, .ref a0), (1, .int a1)]) dX11_missed_9 rfl (Nat.le_of_ble_eq_true rfl) rfl ?_
  refine G.iconst (0 : Int32) dX11_missed_10 ki_0 ?_
  refine G.istore (lv' := [(4, .int (0 : Int32)), (3, .int (0 : Int32)), (2, .ref v2), (0, .ref a0), (1, .int a1)]) dX11_missed_11 (Nat.le_of_ble_eq_true rfl) rfl ?_
  refine G.sub (lv' := [(0, .ref a0), (1, .int a1), (2, .ref v2), (3, .int (0 : Int32)), (4, .int (0 : Int32))]) [3, 4, 2, 1, 0] rfl ?_
  refine loopE (fun (s3 : Int32 × Int32) => G yX11_missed cX11_missed 5 (some .int) 7 13 [(0, .ref a0), (1, .int a1), (2, .ref v2), (3, .int s3.1), (4, .int s3.2)] [] v1.2 (some (.int o.1)) o.2) (fun (z3 : (Int32) ⊕ (Int32 × AM)) => Sum.elim (fun (e3 : Int32) => G yX11_missed cX11_missed 5 (some .int) 7 58 [(1, .int a1), (3, .int e3)] [] v1.2 (some (.int o.1)) o.2) (fun (v : (Int32 × AM)) => some v = some o) z3) h ?_ ?_
  · intro z3 h
    rcases z3 with e3 | v
    · have h := sum_inl h
      show G yX11_missed cX11_missed 5 (some .int) 7 58 [(1, .int a1), (3, .int e3)] [] v1.2 (some (.int o.1)) o.2
      refine G.iload_n dX11_missed_58 rfl rfl ?_
      refine G.iconst (-1 : Int32) dX11_missed_59 ki_m1 ?_
      refine G.icmp_ne 67 dX11_missed_60 (by decide) h (fun c14 h => ?_) (fun c14 h => ?_)
      · refine G.iload_n dX11_missed_63 rfl rfl ?_
        refine G.goto 68 dX11_missed_64 (by decide) ?_
        exact G.iretW dX11_missed_68 rfl (rfl) h
      · refine G.iconst (-1 : Int32) dX11_missed_67 ki_m1 ?_
        exact G.iretW dX11_missed_68 rfl (rfl) h
    · have h := sum_inr h
      exact h
  · intro s3 x3 h K3
    show G yX11_missed cX11_missed 5 (some .int) 7 13 [(0, .ref a0), (1, .int a1), (2, .ref v2), (3, .int s3.1), (4, .int s3.2)] [] v1.2 (some (.int o.1)) o.2
    refine G.iload dX11_missed_13 rfl ?_
    refine G.aload_n dX11_missed_15 rfl rfl ?_
    refine G.getR dX11_missed_16 fkX11_46 fr11_6 h (fun v4 h => ?_)
    refine G.getR dX11_missed_19 fkX11_137 fr10_0 h (fun v5 h => ?_)
    refine G.bipush (6 : Int32) dX11_missed_22 kb_6 ?_
    refine G.iald dX11_missed_24 h (fun v6 h => ?_)
    refine G.icmp_ge 58 dX11_missed_25 (by decide) h (fun c7 h => ?_) (fun c7 h => ?_)
    · refine G.sub (lv' := [(1, .int a1), (3, .int s3.1)]) [1, 3] rfl ?_
      have h := leafR' h K3
      exact h
    · refine G.aload_n dX11_missed_28 rfl rfl ?_
      refine G.aload_n dX11_missed_29 rfl rfl ?_
      refine G.getR dX11_missed_30 fkX11_46 fr11_6 h (fun v8 h => ?_)
      refine G.iload dX11_missed_33 rfl ?_
      refine G.callVi (ci := 3) [.ref v8, .int s3.2] [] dX11_missed_35 lkX11_251 okX3_misses rfl (fun v hv => C_X3_misses hv) (Nat.le_of_ble_eq_true rfl) rfl rfl (Nat.le_of_ble_eq_true rfl) h (fun v9 h => ?_)
      refine jn_elim (fun j11 => ∀ (u10 : Int32), j11 u10 = some x3 → G yX11_missed cX11_missed 5 (some .int) 7 52 [(0, .ref a0), (1, .int a1), (2, .ref v2), (3, .int u10), (4, .int s3.2)] [] v1.2 (some (.int o.1)) o.2) h ?_ ?_
      · intro u10 h
        refine G.iinc s3.2 (w := (s3.2 + (1 : Int32))) (lv' := [(4, .int (s3.2 + (1 : Int32))), (0, .ref a0), (1, .int a1), (2, .ref v2), (3, .int u10)]) dX11_missed_52 rfl rfl (Nat.le_of_ble_eq_true rfl) rfl ?_
        refine G.goto 13 dX11_missed_55 (by decide) ?_
        refine G.sub (lv' := [(0, .ref a0), (1, .int a1), (2, .ref v2), (3, .int u10), (4, .int (s3.2 + (1 : Int32)))]) [1, 2, 3, 4, 0] rfl ?_
        have h := leafL' h K3
        exact h
      · intro j11 Jj11 h
        refine G.if_eq 52 dX11_missed_38 (by decide) h (fun c12 h => ?_) (fun c12 h => ?_)
        · refine G.sub (lv' := [(0, .ref a0), (1, .int a1), (2, .ref v2), (3, .int s3.1), (4, .int s3.2)]) [0, 1, 2, 3, 4] rfl ?_
          exact Jj11 _ h
        · refine G.iload_n dX11_missed_41 rfl rfl ?_
          refine G.iload_n dX11_missed_42 rfl rfl ?_
          refine G.icmp_ne 49 dX11_missed_43 (by decide) h (fun c13 h => ?_) (fun c13 h => ?_)
          · refine G.iload dX11_missed_46 rfl ?_
            have h := leafR' h K3
            exact G.iretW dX11_missed_48 rfl (rfl) h
          · refine G.iinc s3.1 (w := (s3.1 + (1 : Int32))) (lv' := [(3, .int (s3.1 + (1 : Int32))), (0, .ref a0), (1, .int a1), (2, .ref v2), (4, .int s3.2)]) dX11_missed_49 rfl rfl (Nat.le_of_ble_eq_true rfl) rfl ?_
            refine G.sub (lv' := [(0, .ref a0), (1, .int a1), (2, .ref v2), (3, .int (s3.1 + (1 : Int32))), (4, .int s3.2)]) [1, 2, 3, 0, 4] rfl ?_
            exact Jj11 _ h
-- OnlyUpward$Knowledge.worthMissed(LOnlyUpward$World;)I
set_option maxRecDepth 100000 in
set_option maxHeartbeats 4000000 in
def F_X3_worthMissed (n : Nat) (M : AM) (a0 : Nat) (a1 : Nat) : Option Int32 :=
  (iter (fun (s1 : Int32 × Int32) => (gR 10 0 M a1).bind fun v2 => (rdI M v2 (6 : Int32)).bind fun v3 => if v3 ≤ s1.2 then some (.inr s1.1) else (rcv 3 M a0 (F_X3_misses n M a0 a1 s1.2)).bind fun v5 => jn (fun (u6 : Int32) => some (.inl (u6, (s1.2 + (1 : Int32))))) fun j7 => if v5 = 0 then j7 s1.1 else (gR 10 3 M a1).bind fun v9 => (gR 10 7 M a1).bind fun v10 => (rdI M v10 s1.2).bind fun v11 => (rdI M v9 v11).bind fun v12 => j7 (s1.1 + v12)) n ((0 : Int32), (0 : Int32))).bind fun (e1 : Int32) => some e1
set_option maxRecDepth 100000 in
set_option maxHeartbeats 4000000 in
theorem C_X3_worthMissed {n : Nat} {M : AM} {a0 : Nat} {a1 : Nat} {o : Int32} (h : F_X3_worthMissed n M a0 a1 = some o) : Cn yX3_worthMissed cX3_worthMissed 4 (some .int) 3 [.ref a0, .ref a1] M (some (.int o)) M := by
  unfold F_X3_worthMissed at h
  refine Cn.of rfl (Nat.le_of_ble_eq_true rfl) ?_
  show G yX3_worthMissed cX3_worthMissed 4 (some .int) 3 0 [(0, .ref a0), (1, .ref a1)] [] M (some (.int o)) M
  refine G.iconst (0 : Int32) dX3_worthMissed_0 ki_0 ?_
  refine G.istore_n (lv' := [(2, .int (0 : Int32)), (0, .ref a0), (1, .ref a1)]) dX3_worthMissed_1 rfl (Nat.le_of_ble_eq_true rfl) rfl ?_
  refine G.iconst (0 : Int32) dX3_worthMissed_2 ki_0 ?_
  refine G.istore_n (lv' := [(3, .int (0 : Int32)), (2, .int (0 : Int32)), (0, .ref a0), (1, .ref a1)]) dX3_worthMissed_3 rfl (Nat.le_of_ble_eq_true rfl) rfl ?_
  refine G.sub (lv' := [(0, .ref a0), (1, .ref a1), (2, .int (0 : Int32)), (3, .int (0 : Int32))]) [2, 3, 1, 0] rfl ?_
  refine loopE (fun (s1 : Int32 × Int32) => G yX3_worthMissed cX3_worthMissed 4 (some .int) 3 4 [(0, .ref a0), (1, .ref a1), (2, .int s1.1), (3, .int s1.2)] [] M (some (.int o)) M) (fun (e1 : Int32) => G yX3_worthMissed cX3_worthMissed 4 (some .int) 3 44 [(2, .int e1)] [] M (some (.int o)) M) h ?_ ?_
  · intro e1 h
    show G yX3_worthMissed cX3_worthMissed 4 (some .int) 3 44 [(2, .int e1)] [] M (some (.int o)) M
    refine G.iload_n dX3_worthMissed_44 rfl rfl ?_
    exact G.iret dX3_worthMissed_45 rfl (rfl) h
  · intro s1 x1 h K1
    show G yX3_worthMissed cX3_worthMissed 4 (some .int) 3 4 [(0, .ref a0), (1, .ref a1), (2, .int s1.1), (3, .int s1.2)] [] M (some (.int o)) M
    refine G.iload_n dX3_worthMissed_4 rfl rfl ?_
    refine G.aload_n dX3_worthMissed_5 rfl rfl ?_
    refine G.getR dX3_worthMissed_6 fkX3_41 fr10_0 h (fun v2 h => ?_)
    refine G.bipush (6 : Int32) dX3_worthMissed_9 kb_6 ?_
    refine G.iald dX3_worthMissed_11 h (fun v3 h => ?_)
    refine G.icmp_ge 44 dX3_worthMissed_12 (by decide) h (fun c4 h => ?_) (fun c4 h => ?_)
    · refine G.sub (lv' := [(2, .int s1.1)]) [2] rfl ?_
      have h := leafR' h K1
      exact h
    · refine G.aload_n dX3_worthMissed_15 rfl rfl ?_
      refine G.aload_n dX3_worthMissed_16 rfl rfl ?_
      refine G.iload_n dX3_worthMissed_17 rfl rfl ?_
      refine G.callVi (ci := 3) [.ref a1, .int s1.2] [] dX3_worthMissed_18 lkX3_44 okX3_misses rfl (fun v hv => C_X3_misses hv) (Nat.le_of_ble_eq_true rfl) rfl rfl (Nat.le_of_ble_eq_true rfl) h (fun v5 h => ?_)
      refine jn_elim (fun j7 => ∀ (u6 : Int32), j7 u6 = some x1 → G yX3_worthMissed cX3_worthMissed 4 (some .int) 3 38 [(0, .ref a0), (1, .ref a1), (2, .int u6), (3, .int s1.2)] [] M (some (.int o)) M) h ?_ ?_
      · intro u6 h
        refine G.iinc s1.2 (w := (s1.2 + (1 : Int32))) (lv' := [(3, .int (s1.2 + (1 : Int32))), (0, .ref a0), (1, .ref a1), (2, .int u6)]) dX3_worthMissed_38 rfl rfl (Nat.le_of_ble_eq_true rfl) rfl ?_
        refine G.goto 4 dX3_worthMissed_41 (by decide) ?_
        refine G.sub (lv' := [(0, .ref a0), (1, .ref a1), (2, .int u6), (3, .int (s1.2 + (1 : Int32)))]) [1, 2, 3, 0] rfl ?_
        have h := leafL' h K1
        exact h
      · intro j7 Jj7 h
        refine G.if_eq 38 dX3_worthMissed_21 (by decide) h (fun c8 h => ?_) (fun c8 h => ?_)
        · refine G.sub (lv' := [(0, .ref a0), (1, .ref a1), (2, .int s1.1), (3, .int s1.2)]) [0, 1, 2, 3] rfl ?_
          exact Jj7 _ h
        · refine G.iload_n dX3_worthMissed_24 rfl rfl ?_
          refine G.aload_n dX3_worthMissed_25 rfl rfl ?_
          refine G.getR dX3_worthMissed_26 fkX3_48 fr10_3 h (fun v9 h => ?_)
          refine G.aload_n dX3_worthMissed_29 rfl rfl ?_
          refine G.getR dX3_worthMissed_30 fkX3_35 fr10_7 h (fun v10 h => ?_)
          refine G.iload_n dX3_worthMissed_33 rfl rfl ?_
          refine G.iald dX3_worthMissed_34 h (fun v11 h => ?_)
          refine G.iald dX3_worthMissed_35 h (fun v12 h => ?_)
          refine G.iadd dX3_worthMissed_36 ?_
          refine G.istore_n (lv' := [(2, .int (s1.1 + v12)), (0, .ref a0), (1, .ref a1), (3, .int s1.2)]) dX3_worthMissed_37 rfl (Nat.le_of_ble_eq_true rfl) rfl ?_
          refine G.sub (lv' := [(0, .ref a0), (1, .ref a1), (2, .int (s1.1 + v12)), (3, .int s1.2)]) [1, 2, 0, 3] rfl ?_
          exact Jj7 _ h
-- OnlyUpward.harm()I
set_option maxRecDepth 100000 in
set_option maxHeartbeats 4000000 in
def F_X11_harm (n : Nat) (M : AM) (a0 : Nat) : Option (Int32 × AM) :=
  (rcv 11 M a0 (F_X11_planCourse n M a0)).bind fun v1 => (gR 1 0 v1.2 v1.1).bind fun v2 => (gR 11 6 v1.2 a0).bind fun v3 => (rcv 3 v1.2 v2 (F_X3_worthMissed n v1.2 v2 v3)).bind fun v4 => some (v4, v1.2)
set_option maxRecDepth 100000 in
set_option maxHeartbeats 4000000 in
theorem C_X11_harm {n : Nat} {M : AM} {a0 : Nat} {o : (Int32 × AM)} (h : F_X11_harm n M a0 = some o) : Cn yX11_harm cX11_harm 1 (some .int) 7 [.ref a0] M (some (.int o.1)) o.2 := by
  unfold F_X11_harm at h
  refine Cn.of rfl (Nat.le_of_ble_eq_true rfl) ?_
  show G yX11_harm cX11_harm 1 (some .int) 7 0 [(0, .ref a0)] [] M (some (.int o.1)) o.2
  refine G.aload_n dX11_harm_0 rfl rfl ?_
  refine G.callVr (ci := 11) [] [] dX11_harm_1 lkX11_189 okX11_planCourse rfl (fun v hv => C_X11_planCourse hv) (Nat.le_of_ble_eq_true rfl) rfl rfl (Nat.le_of_ble_eq_true rfl) h (fun v1 h => ?_)
  refine G.getR dX11_harm_4 fkX11_222 fr1_0 h (fun v2 h => ?_)
  refine G.aload_n dX11_harm_7 rfl rfl ?_
  refine G.getR dX11_harm_8 fkX11_46 fr11_6 h (fun v3 h => ?_)
  refine G.callVi (ci := 3) [.ref v3] [] dX11_harm_11 lkX11_255 okX3_worthMissed rfl (fun v hv => C_X3_worthMissed hv) (Nat.le_of_ble_eq_true rfl) rfl rfl (Nat.le_of_ble_eq_true rfl) h (fun v4 h => ?_)
  exact G.iretW dX11_harm_14 rfl (rfl) h
-- OnlyUpward$World.knowersAtFirst(I)I
set_option maxRecDepth 100000 in
set_option maxHeartbeats 4000000 in
def F_X10_knowersAtFirst (n : Nat) (M : AM) (a0 : Nat) (a1 : Int32) : Option Int32 :=
  (iter (fun (s1 : Int32 × Int32) => (gR 10 0 M a0).bind fun v2 => (rdI M v2 (1 : Int32)).bind fun v3 => if v3 ≤ s1.2 then some (.inr s1.1) else (gR 10 5 M a0).bind fun v5 => (rdI M v5 s1.2).bind fun v6 => lets (s1.1 ||| (((ush v6 a1) &&& (1 : Int32)) <<< (s1.2 &&& 31))) fun (w7 : Int32) => some (.inl (w7, (s1.2 + (1 : Int32))))) n ((0 : Int32), (0 : Int32))).bind fun (e1 : Int32) => some e1
set_option maxRecDepth 100000 in
set_option maxHeartbeats 4000000 in
theorem C_X10_knowersAtFirst {n : Nat} {M : AM} {a0 : Nat} {a1 : Int32} {o : Int32} (h : F_X10_knowersAtFirst n M a0 a1 = some o) : Cn yX10_knowersAtFirst cX10_knowersAtFirst 4 (some .int) 0 [.ref a0, .int a1] M (some (.int o)) M := by
  unfold F_X10_knowersAtFirst at h
  refine Cn.of rfl (Nat.le_of_ble_eq_true rfl) ?_
  show G yX10_knowersAtFirst cX10_knowersAtFirst 4 (some .int) 0 0 [(0, .ref a0), (1, .int a1)] [] M (some (.int o)) M
  refine G.iconst (0 : Int32) dX10_knowersAtFirst_0 ki_0 ?_
  refine G.istore_n (lv' := [(2, .int (0 : Int32)), (0, .ref a0), (1, .int a1)]) dX10_knowersAtFirst_1 rfl (Nat.le_of_ble_eq_true rfl) rfl ?_
  refine G.iconst (0 : Int32) dX10_knowersAtFirst_2 ki_0 ?_
  refine G.istore_n (lv' := [(3, .int (0 : Int32)), (2, .int (0 : Int32)), (0, .ref a0), (1, .int a1)]) dX10_knowersAtFirst_3 rfl (Nat.le_of_ble_eq_true rfl) rfl ?_
  refine G.sub (lv' := [(0, .ref a0), (1, .int a1), (2, .int (0 : Int32)), (3, .int (0 : Int32))]) [2, 3, 1, 0] rfl ?_
  refine loopE (fun (s1 : Int32 × Int32) => G yX10_knowersAtFirst cX10_knowersAtFirst 4 (some .int) 0 4 [(0, .ref a0), (1, .int a1), (2, .int s1.1), (3, .int s1.2)] [] M (some (.int o)) M) (fun (e1 : Int32) => G yX10_knowersAtFirst cX10_knowersAtFirst 4 (some .int) 0 35 [(2, .int e1)] [] M (some (.int o)) M) h ?_ ?_
  · intro e1 h
    show G yX10_knowersAtFirst cX10_knowersAtFirst 4 (some .int) 0 35 [(2, .int e1)] [] M (some (.int o)) M
    refine G.iload_n dX10_knowersAtFirst_35 rfl rfl ?_
    exact G.iret dX10_knowersAtFirst_36 rfl (rfl) h
  · intro s1 x1 h K1
    show G yX10_knowersAtFirst cX10_knowersAtFirst 4 (some .int) 0 4 [(0, .ref a0), (1, .int a1), (2, .int s1.1), (3, .int s1.2)] [] M (some (.int o)) M
    refine G.iload_n dX10_knowersAtFirst_4 rfl rfl ?_
    refine G.aload_n dX10_knowersAtFirst_5 rfl rfl ?_
    refine G.getR dX10_knowersAtFirst_6 fkX10_9 fr10_0 h (fun v2 h => ?_)
    refine G.iconst (1 : Int32) dX10_knowersAtFirst_9 ki_1 ?_
    refine G.iald dX10_knowersAtFirst_10 h (fun v3 h => ?_)
    refine G.icmp_ge 35 dX10_knowersAtFirst_11 (by decide) h (fun c4 h => ?_) (fun c4 h => ?_)
    · refine G.sub (lv' := [(2, .int s1.1)]) [2] rfl ?_
      have h := leafR' h K1
      exact h
    · refine G.iload_n dX10_knowersAtFirst_14 rfl rfl ?_
      refine G.aload_n dX10_knowersAtFirst_15 rfl rfl ?_
      refine G.getR dX10_knowersAtFirst_16 fkX10_27 fr10_5 h (fun v5 h => ?_)
      refine G.iload_n dX10_knowersAtFirst_19 rfl rfl ?_
      refine G.iald dX10_knowersAtFirst_20 h (fun v6 h => ?_)
      refine G.iload_n dX10_knowersAtFirst_21 rfl rfl ?_
      refine G.iushr dX10_knowersAtFirst_22 ?_
      refine G.iconst (1 : Int32) dX10_knowersAtFirst_23 ki_1 ?_
      refine G.iand dX10_knowersAtFirst_24 ?_
      refine G.iload_n dX10_knowersAtFirst_25 rfl rfl ?_
      refine G.ishl dX10_knowersAtFirst_26 ?_
      refine G.ior dX10_knowersAtFirst_27 ?_
      refine lets_elim h (fun w7 ew7 h => ?_)
      rw [← ew7]
      refine G.istore_n (lv' := [(2, .int w7), (0, .ref a0), (1, .int a1), (3, .int s1.2)]) dX10_knowersAtFirst_28 rfl (Nat.le_of_ble_eq_true rfl) rfl ?_
      refine G.iinc s1.2 (w := (s1.2 + (1 : Int32))) (lv' := [(3, .int (s1.2 + (1 : Int32))), (2, .int w7), (0, .ref a0), (1, .int a1)]) dX10_knowersAtFirst_29 rfl rfl (Nat.le_of_ble_eq_true rfl) rfl ?_
      refine G.goto 4 dX10_knowersAtFirst_32 (by decide) ?_
      refine G.sub (lv' := [(0, .ref a0), (1, .int a1), (2, .int w7), (3, .int (s1.2 + (1 : Int32)))]) [2, 3, 1, 0] rfl ?_
      have h := leafL' h K1
      exact h
-- OnlyUpward.soonFromFirst(II)I
set_option maxRecDepth 100000 in
set_option maxHeartbeats 4000000 in
def F_X11_soonFromFirst (n : Nat) (M : AM) (a0 : Nat) (a1 : Int32) (a2 : Int32) : Option (Int32 × AM) :=
  (gR 11 12 M a0).bind fun v1 => (gR 11 6 M a0).bind fun v2 => (gR 11 6 M a0).bind fun v3 => (rcv 10 M v3 (F_X10_knowersAtFirst n M v3 a2)).bind fun v4 => (rcv 7 M v1 (F_X7_go n M v1 v2 a2 v4 (0 : Int32) (0 : Int32) (0 : Int32))).bind fun M6 => (gR 11 12 M6 a0).bind fun v7 => (gR 7 0 M6 v7).bind fun v8 => (rdI M6 v8 a1).bind fun v9 => some (v9, M6)
set_option maxRecDepth 100000 in
set_option maxHeartbeats 4000000 in
theorem C_X11_soonFromFirst {n : Nat} {M : AM} {a0 : Nat} {a1 : Int32} {a2 : Int32} {o : (Int32 × AM)} (h : F_X11_soonFromFirst n M a0 a1 a2 = some o) : Cn yX11_soonFromFirst cX11_soonFromFirst 3 (some .int) 4 [.ref a0, .int a1, .int a2] M (some (.int o.1)) o.2 := by
  unfold F_X11_soonFromFirst at h
  refine Cn.of rfl (Nat.le_of_ble_eq_true rfl) ?_
  show G yX11_soonFromFirst cX11_soonFromFirst 3 (some .int) 4 0 [(0, .ref a0), (1, .int a1), (2, .int a2)] [] M (some (.int o.1)) o.2
  refine G.aload_n dX11_soonFromFirst_0 rfl rfl ?_
  refine G.getR dX11_soonFromFirst_1 fkX11_77 fr11_12 h (fun v1 h => ?_)
  refine G.aload_n dX11_soonFromFirst_4 rfl rfl ?_
  refine G.getR dX11_soonFromFirst_5 fkX11_46 fr11_6 h (fun v2 h => ?_)
  refine G.iload_n dX11_soonFromFirst_8 rfl rfl ?_
  refine G.aload_n dX11_soonFromFirst_9 rfl rfl ?_
  refine G.getR dX11_soonFromFirst_10 fkX11_46 fr11_6 h (fun v3 h => ?_)
  refine G.iload_n dX11_soonFromFirst_13 rfl rfl ?_
  refine G.callVi (ci := 10) [.int a2] [.int a2, .ref v2, .ref v1] dX11_soonFromFirst_14 lkX11_293 okX10_knowersAtFirst rfl (fun v hv => C_X10_knowersAtFirst hv) (Nat.le_of_ble_eq_true rfl) rfl rfl (Nat.le_of_ble_eq_true rfl) h (fun v4 h => ?_)
  refine G.iconst (0 : Int32) dX11_soonFromFirst_17 ki_0 ?_
  refine G.iconst (0 : Int32) dX11_soonFromFirst_18 ki_0 ?_
  refine G.iconst (0 : Int32) dX11_soonFromFirst_19 ki_0 ?_
  refine G.callVv (ci := 7) [.ref v2, .int a2, .int v4, .int (0 : Int32), .int (0 : Int32), .int (0 : Int32)] [] dX11_soonFromFirst_20 lkX11_282 okX7_go rfl (fun v hv => C_X7_go hv) (Nat.le_of_ble_eq_true rfl) rfl rfl (Nat.le_of_ble_eq_true rfl) h (fun M6 h => ?_)
  refine G.aload_n dX11_soonFromFirst_23 rfl rfl ?_
  refine G.getR dX11_soonFromFirst_24 fkX11_77 fr11_12 h (fun v7 h => ?_)
  refine G.getR dX11_soonFromFirst_27 fkX11_285 fr7_0 h (fun v8 h => ?_)
  refine G.iload_n dX11_soonFromFirst_30 rfl rfl ?_
  refine G.iald dX11_soonFromFirst_31 h (fun v9 h => ?_)
  exact G.iretW dX11_soonFromFirst_32 rfl (rfl) h
-- OnlyUpward.can(I)I
set_option maxRecDepth 100000 in
set_option maxHeartbeats 4000000 in
def F_X11_can (n : Nat) (M : AM) (a0 : Nat) (a1 : Int32) : Option (Int32 × AM) :=
  if a1 < 0 then some ((-1 : Int32), M) else if a1 ≤ (1 : Int32) then (iter (fun (s3 : Int32 × Int32 × Int32 × AM) => (gR 11 6 s3.2.2.2 a0).bind fun v4 => (gR 10 0 s3.2.2.2 v4).bind fun v5 => (rdI s3.2.2.2 v5 (6 : Int32)).bind fun v6 => if v6 ≤ s3.2.2.1 then some (.inr (s3.1, s3.2.1, s3.2.2.2)) else (gR 11 6 s3.2.2.2 a0).bind fun v8 => (gR 10 7 s3.2.2.2 v8).bind fun v9 => (rdI s3.2.2.2 v9 s3.2.2.1).bind fun v10 => (gR 11 6 s3.2.2.2 a0).bind fun v11 => (gR 10 6 s3.2.2.2 v11).bind fun v12 => (rdI s3.2.2.2 v12 s3.2.2.1).bind fun v13 => (rcv 11 s3.2.2.2 a0 (F_X11_soonFromFirst n s3.2.2.2 a0 v13 v10)).bind fun v14 => (gR 11 6 v14.2 a0).bind fun v15 => (gR 10 8 v14.2 v15).bind fun v16 => (rdI v14.2 v16 s3.2.2.1).bind fun v17 => jn (fun (u18 : Int32) (u19 : Int32) => some (.inl (u18, u19, (s3.2.2.1 + (1 : Int32)), v14.2))) fun j20 => if v17 < v14.1 then (gR 11 6 v14.2 a0).bind fun v22 => (gR 10 3 v14.2 v22).bind fun v23 => (rdI v14.2 v23 v10).bind fun v24 => j20 s3.1 (s3.2.1 + v24) else j20 (s3.1 + (1 : Int32)) s3.2.1) n ((0 : Int32), (0 : Int32), (0 : Int32), M)).bind fun (e3 : Int32 × Int32 × AM) => if a1 = 0 then some (e3.1, e3.2.2) else some (e3.2.1, e3.2.2) else some ((-1 : Int32), M)
set_option maxRecDepth 100000 in
set_option maxHeartbeats 4000000 in
theorem C_X11_can {n : Nat} {M : AM} {a0 : Nat} {a1 : Int32} {o : (Int32 × AM)} (h : F_X11_can n M a0 a1 = some o) : Cn yX11_can cX11_can 6 (some .int) 5 [.ref a0, .int a1] M (some (.int o.1)) o.2 := by
  unfold F_X11_can at h
  refine Cn.of rfl (Nat.le_of_ble_eq_true rfl) ?_
  show G yX11_can cX11_can 6 (some .int) 5 0 [(0, .ref a0), (1, .int a1)] [] M (some (.int o.1)) o.2
  refine G.iload_n dX11_can_0 rfl rfl ?_
  refine G.if_lt 9 dX11_can_1 (by decide) h (fun c1 h => ?_) (fun c1 h => ?_)
  · refine G.iconst (-1 : Int32) dX11_can_9 ki_m1 ?_
    exact G.iretW dX11_can_10 rfl (rfl) h
  · refine G.iload_n dX11_can_4 rfl rfl ?_
    refine G.iconst (1 : Int32) dX11_can_5 ki_1 ?_
    refine G.icmp_le 11 dX11_can_6 (by decide) h (fun c2 h => ?_) (fun c2 h => ?_)
    · refine G.iconst (0 : Int32) dX11_can_11 ki_0 ?_
      refine G.istore_n (lv' := [(2, .int (0 : Int32)), (0, .ref a0), (1, .int a1)]) dX11_can_12 rfl (Nat.le_of_ble_eq_true rfl) rfl ?_
      refine G.iconst (0 : Int32) dX11_can_13 ki_0 ?_
      refine G.istore_n (lv' := [(3, .int (0 : Int32)), (2, .int (0 : Int32)), (0, .ref a0), (1, .int a1)]) dX11_can_14 rfl (Nat.le_of_ble_eq_true rfl) rfl ?_
      refine G.iconst (0 : Int32) dX11_can_15 ki_0 ?_
      refine G.istore (lv' := [(4, .int (0 : Int32)), (3, .int (0 : Int32)), (2, .int (0 : Int32)), (0, .ref a0), (1, .int a1)]) dX11_can_16 (Nat.le_of_ble_eq_true rfl) rfl ?_
      refine G.sub (lv' := [(0, .ref a0), (1, .int a1), (2, .int (0 : Int32)), (3, .int (0 : Int32)), (4, .int (0 : Int32))]) [3, 4, 2, 1, 0] rfl ?_
      refine loopE (fun (s3 : Int32 × Int32 × Int32 × AM) => G yX11_can cX11_can 6 (some .int) 5 18 [(0, .ref a0), (1, .int a1), (2, .int s3.1), (3, .int s3.2.1), (4, .int s3.2.2.1)] [] s3.2.2.2 (some (.int o.1)) o.2) (fun (e3 : Int32 × Int32 × AM) => G yX11_can cX11_can 6 (some .int) 5 99 [(1, .int a1), (2, .int e3.1), (3, .int e3.2.1)] [] e3.2.2 (some (.int o.1)) o.2) h ?_ ?_
      · intro e3 h
        show G yX11_can cX11_can 6 (some .int) 5 99 [(1, .int a1), (2, .int e3.1), (3, .int e3.2.1)] [] e3.2.2 (some (.int o.1)) o.2
        refine G.iload_n dX11_can_99 rfl rfl ?_
        refine G.if_ne 107 dX11_can_100 (by decide) h (fun c25 h => ?_) (fun c25 h => ?_)
        · refine G.iload_n dX11_can_103 rfl rfl ?_
          refine G.goto 108 dX11_can_104 (by decide) ?_
          exact G.iretW dX11_can_108 rfl (rfl) h
        · refine G.iload_n dX11_can_107 rfl rfl ?_
          exact G.iretW dX11_can_108 rfl (rfl) h
      · intro s3 x3 h K3
        show G yX11_can cX11_can 6 (some .int) 5 18 [(0, .ref a0), (1, .int a1), (2, .int s3.1), (3, .int s3.2.1), (4, .int s3.2.2.1)] [] s3.2.2.2 (some (.int o.1)) o.2
        refine G.iload dX11_can_18 rfl ?_
        refine G.aload_n dX11_can_20 rfl rfl ?_
        refine G.getR dX11_can_21 fkX11_46 fr11_6 h (fun v4 h => ?_)
        refine G.getR dX11_can_24 fkX11_137 fr10_0 h (fun v5 h => ?_)
        refine G.bipush (6 : Int32) dX11_can_27 kb_6 ?_
        refine G.iald dX11_can_29 h (fun v6 h => ?_)
        refine G.icmp_ge 99 dX11_can_30 (by decide) h (fun c7 h => ?_) (fun c7 h => ?_)
        · refine G.sub (lv' := [(1, .int a1), (2, .int s3.1), (3, .int s3.2.1)]) [1, 2, 3] rfl ?_
          have h := leafR' h K3
          exact h
        · refine G.aload_n dX11_can_33 rfl rfl ?_
          refine G.getR dX11_can_34 fkX11_46 fr11_6 h (fun v8 h => ?_)
          refine G.getR dX11_can_37 fkX11_296 fr10_7 h (fun v9 h => ?_)
          refine G.iload dX11_can_40 rfl ?_
          refine G.iald dX11_can_42 h (fun v10 h => ?_)
          refine G.istore (lv' := [(5, .int v10), (0, .ref a0), (1, .int a1), (2, .int s3.1), (3, .int s3.2.1), (4, .int s3.2.2.1)]) dX11_can_43 (Nat.le_of_ble_eq_true rfl) rfl ?_
          refine G.aload_n dX11_can_45 rfl rfl ?_
          refine G.aload_n dX11_can_46 rfl rfl ?_
          refine G.getR dX11_can_47 fkX11_46 fr11_6 h (fun v11 h => ?_)
          refine G.getR dX11_can_50 fkX11_299 fr10_6 h (fun v12 h => ?_)
          refine G.iload dX11_can_53 rfl ?_
          refine G.iald dX11_can_55 h (fun v13 h => ?_)
          refine G.iload dX11_can_56 rfl ?_
          refine G.callVi (ci := 11) [.int v13, .int v10] [] dX11_can_58 lkX11_302 okX11_soonFromFirst rfl (fun v hv => C_X11_soonFromFirst hv) (Nat.le_of_ble_eq_true rfl) rfl rfl (Nat.le_of_ble_eq_true rfl) h (fun v14 h => ?_)
          refine G.aload_n dX11_can_61 rfl rfl ?_
          refine G.getR dX11_can_62 fkX11_46 fr11_6 h (fun v15 h => ?_)
          refine G.getR dX11_can_65 fkX11_305 fr10_8 h (fun v16 h => ?_)
          refine G.iload dX11_can_68 rfl ?_
          refine G.iald dX11_can_70 h (fun v17 h => ?_)
          refine jn_elim (fun j20 => ∀ (u18 : Int32) (u19 : Int32), j20 u18 u19 = some x3 → G yX11_can cX11_can 6 (some .int) 5 93 [(0, .ref a0), (1, .int a1), (2, .int u18), (3, .int u19), (4, .int s3.2.2.1)] [] v14.2 (some (.int o.1)) o.2) h ?_ ?_
          · intro u18 u19 h
            refine G.iinc s3.2.2.1 (w := (s3.2.2.1 + (1 : Int32))) (lv' := [(4, .int (s3.2.2.1 + (1 : Int32))), (0, .ref a0), (1, .int a1), (2, .int u18), (3, .int u19)]) dX11_can_93 rfl rfl (Nat.le_of_ble_eq_true rfl) rfl ?_
            refine G.goto 18 dX11_can_96 (by decide) ?_
            refine G.sub (lv' := [(0, .ref a0), (1, .int a1), (2, .int u18), (3, .int u19), (4, .int (s3.2.2.1 + (1 : Int32)))]) [1, 2, 3, 4, 0] rfl ?_
            have h := leafL' h K3
            exact h
          · intro j20 Jj20 h
            refine G.icmp_gt 80 dX11_can_71 (by decide) h (fun c21 h => ?_) (fun c21 h => ?_)
            · refine G.iload_n dX11_can_80 rfl rfl ?_
              refine G.aload_n dX11_can_81 rfl rfl ?_
              refine G.getR dX11_can_82 fkX11_46 fr11_6 h (fun v22 h => ?_)
              refine G.getR dX11_can_85 fkX11_245 fr10_3 h (fun v23 h => ?_)
              refine G.iload dX11_can_88 rfl ?_
              refine G.iald dX11_can_90 h (fun v24 h => ?_)
              refine G.iadd dX11_can_91 ?_
              refine G.istore_n (lv' := [(3, .int (s3.2.1 + v24)), (5, .int v10), (0, .ref a0), (1, .int a1), (2, .int s3.1), (4, .int s3.2.2.1)]) dX11_can_92 rfl (Nat.le_of_ble_eq_true rfl) rfl ?_
              refine G.sub (lv' := [(0, .ref a0), (1, .int a1), (2, .int s3.1), (3, .int (s3.2.1 + v24)), (4, .int s3.2.2.1)]) [2, 3, 4, 0, 5] rfl ?_
              exact Jj20 _ _ h
            · refine G.iinc s3.1 (w := (s3.1 + (1 : Int32))) (lv' := [(2, .int (s3.1 + (1 : Int32))), (5, .int v10), (0, .ref a0), (1, .int a1), (3, .int s3.2.1), (4, .int s3.2.2.1)]) dX11_can_74 rfl rfl (Nat.le_of_ble_eq_true rfl) rfl ?_
              refine G.goto 93 dX11_can_77 (by decide) ?_
              refine G.sub (lv' := [(0, .ref a0), (1, .int a1), (2, .int (s3.1 + (1 : Int32))), (3, .int s3.2.1), (4, .int s3.2.2.1)]) [2, 3, 0, 4, 5] rfl ?_
              exact Jj20 _ _ h
    · refine G.iconst (-1 : Int32) dX11_can_9 ki_m1 ?_
      exact G.iretW dX11_can_10 rfl (rfl) h
-- OnlyUpward.task(II)I
set_option maxRecDepth 100000 in
set_option maxHeartbeats 4000000 in
def F_X11_task (n : Nat) (M : AM) (a0 : Nat) (a1 : Int32) (a2 : Int32) : Option (Int32 × AM) :=
  (rcv 11 M a0 (F_X11_isOne n M a0 (8 : Int32) a1)).bind fun v1 => if v1 = 0 then some ((-1 : Int32), M) else (rcv 11 M a0 (F_X11_isOne n M a0 (1 : Int32) a2)).bind fun v3 => if v3 = 0 then some ((-1 : Int32), M) else (iter (fun (s5 : Int32 × Int32 × AM) => (gR 11 6 s5.2.2 a0).bind fun v6 => (gR 10 0 s5.2.2 v6).bind fun v7 => (rdI s5.2.2 v7 (2 : Int32)).bind fun v8 => if v8 ≤ s5.2.1 then some (.inr (s5.1, s5.2.2)) else (gR 11 6 s5.2.2 a0).bind fun v10 => (gR 10 11 s5.2.2 v10).bind fun v11 => (rdI s5.2.2 v11 a1).bind fun v12 => (F_X11_hasBit n s5.2.2 v12 s5.2.1).bind fun v13 => jn (fun (u14 : Int32) (M15 : AM) => some (.inl (u14, (s5.2.1 + (1 : Int32)), M15))) fun j16 => if v13 = 0 then j16 s5.1 s5.2.2 else (rcv 11 s5.2.2 a0 (F_X11_soonFromFirst n s5.2.2 a0 a2 s5.2.1)).bind fun v18 => j16 (mxI s5.1 v18.1) v18.2) n ((0 : Int32), (0 : Int32), M)).bind fun (e5 : Int32 × AM) => (F_X11_orNever n e5.2 e5.1).bind fun v19 => some (v19, e5.2)
set_option maxRecDepth 100000 in
set_option maxHeartbeats 4000000 in
theorem C_X11_task {n : Nat} {M : AM} {a0 : Nat} {a1 : Int32} {a2 : Int32} {o : (Int32 × AM)} (h : F_X11_task n M a0 a1 a2 = some o) : Cn yX11_task cX11_task 5 (some .int) 5 [.ref a0, .int a1, .int a2] M (some (.int o.1)) o.2 := by
  unfold F_X11_task at h
  refine Cn.of rfl (Nat.le_of_ble_eq_true rfl) ?_
  show G yX11_task cX11_task 5 (some .int) 5 0 [(0, .ref a0), (1, .int a1), (2, .int a2)] [] M (some (.int o.1)) o.2
  refine G.aload_n dX11_task_0 rfl rfl ?_
  refine G.bipush (8 : Int32) dX11_task_1 kb_8 ?_
  refine G.iload_n dX11_task_3 rfl rfl ?_
  refine G.callVi (ci := 11) [.int (8 : Int32), .int a1] [] dX11_task_4 lkX11_141 okX11_isOne rfl (fun v hv => C_X11_isOne hv) (Nat.le_of_ble_eq_true rfl) rfl rfl (Nat.le_of_ble_eq_true rfl) h (fun v1 h => ?_)
  refine G.if_eq 19 dX11_task_7 (by decide) h (fun c2 h => ?_) (fun c2 h => ?_)
  · refine G.iconst (-1 : Int32) dX11_task_19 ki_m1 ?_
    exact G.iretW dX11_task_20 rfl (rfl) h
  · refine G.aload_n dX11_task_10 rfl rfl ?_
    refine G.iconst (1 : Int32) dX11_task_11 ki_1 ?_
    refine G.iload_n dX11_task_12 rfl rfl ?_
    refine G.callVi (ci := 11) [.int (1 : Int32), .int a2] [] dX11_task_13 lkX11_141 okX11_isOne rfl (fun v hv => C_X11_isOne hv) (Nat.le_of_ble_eq_true rfl) rfl rfl (Nat.le_of_ble_eq_true rfl) h (fun v3 h => ?_)
    refine G.if_ne 21 dX11_task_16 (by decide) h (fun c4 h => ?_) (fun c4 h => ?_)
    · refine G.iconst (-1 : Int32) dX11_task_19 ki_m1 ?_
      exact G.iretW dX11_task_20 rfl (rfl) h
    · refine G.iconst (0 : Int32) dX11_task_21 ki_0 ?_
      refine G.istore_n (lv' := [(3, .int (0 : Int32)), (0, .ref a0), (1, .int a1), (2, .int a2)]) dX11_task_22 rfl (Nat.le_of_ble_eq_true rfl) rfl ?_
      refine G.iconst (0 : Int32) dX11_task_23 ki_0 ?_
      refine G.istore (lv' := [(4, .int (0 : Int32)), (3, .int (0 : Int32)), (0, .ref a0), (1, .int a1), (2, .int a2)]) dX11_task_24 (Nat.le_of_ble_eq_true rfl) rfl ?_
      refine G.sub (lv' := [(0, .ref a0), (1, .int a1), (2, .int a2), (3, .int (0 : Int32)), (4, .int (0 : Int32))]) [2, 3, 4, 1, 0] rfl ?_
      refine loopE (fun (s5 : Int32 × Int32 × AM) => G yX11_task cX11_task 5 (some .int) 5 26 [(0, .ref a0), (1, .int a1), (2, .int a2), (3, .int s5.1), (4, .int s5.2.1)] [] s5.2.2 (some (.int o.1)) o.2) (fun (e5 : Int32 × AM) => G yX11_task cX11_task 5 (some .int) 5 75 [(3, .int e5.1)] [] e5.2 (some (.int o.1)) o.2) h ?_ ?_
      · intro e5 h
        show G yX11_task cX11_task 5 (some .int) 5 75 [(3, .int e5.1)] [] e5.2 (some (.int o.1)) o.2
        refine G.iload_n dX11_task_75 rfl rfl ?_
        refine G.callSi [.int e5.1] [] dX11_task_76 lkX11_234 okX11_orNever (fun v hv => C_X11_orNever hv) (Nat.le_of_ble_eq_true rfl) rfl rfl (Nat.le_of_ble_eq_true rfl) h (fun v19 h => ?_)
        exact G.iretW dX11_task_79 rfl (rfl) h
      · intro s5 x5 h K5
        show G yX11_task cX11_task 5 (some .int) 5 26 [(0, .ref a0), (1, .int a1), (2, .int a2), (3, .int s5.1), (4, .int s5.2.1)] [] s5.2.2 (some (.int o.1)) o.2
        refine G.iload dX11_task_26 rfl ?_
        refine G.aload_n dX11_task_28 rfl rfl ?_
        refine G.getR dX11_task_29 fkX11_46 fr11_6 h (fun v6 h => ?_)
        refine G.getR dX11_task_32 fkX11_137 fr10_0 h (fun v7 h => ?_)
        refine G.iconst (2 : Int32) dX11_task_35 ki_2 ?_
        refine G.iald dX11_task_36 h (fun v8 h => ?_)
        refine G.icmp_ge 75 dX11_task_37 (by decide) h (fun c9 h => ?_) (fun c9 h => ?_)
        · refine G.sub (lv' := [(3, .int s5.1)]) [3] rfl ?_
          have h := leafR' h K5
          exact h
        · refine G.aload_n dX11_task_40 rfl rfl ?_
          refine G.getR dX11_task_41 fkX11_46 fr11_6 h (fun v10 h => ?_)
          refine G.getR dX11_task_44 fkX11_308 fr10_11 h (fun v11 h => ?_)
          refine G.iload_n dX11_task_47 rfl rfl ?_
          refine G.iald dX11_task_48 h (fun v12 h => ?_)
          refine G.iload dX11_task_49 rfl ?_
          refine G.callSi [.int v12, .int s5.2.1] [] dX11_task_51 lkX11_248 okX11_hasBit (fun v hv => C_X11_hasBit hv) (Nat.le_of_ble_eq_true rfl) rfl rfl (Nat.le_of_ble_eq_true rfl) h (fun v13 h => ?_)
          refine jn_elim (fun j16 => ∀ (u14 : Int32) (M15 : AM), j16 u14 M15 = some x5 → G yX11_task cX11_task 5 (some .int) 5 69 [(0, .ref a0), (1, .int a1), (2, .int a2), (3, .int u14), (4, .int s5.2.1)] [] M15 (some (.int o.1)) o.2) h ?_ ?_
          · intro u14 M15 h
            refine G.iinc s5.2.1 (w := (s5.2.1 + (1 : Int32))) (lv' := [(4, .int (s5.2.1 + (1 : Int32))), (0, .ref a0), (1, .int a1), (2, .int a2), (3, .int u14)]) dX11_task_69 rfl rfl (Nat.le_of_ble_eq_true rfl) rfl ?_
            refine G.goto 26 dX11_task_72 (by decide) ?_
            refine G.sub (lv' := [(0, .ref a0), (1, .int a1), (2, .int a2), (3, .int u14), (4, .int (s5.2.1 + (1 : Int32)))]) [1, 2, 3, 4, 0] rfl ?_
            have h := leafL' h K5
            exact h
          · intro j16 Jj16 h
            refine G.if_eq 69 dX11_task_54 (by decide) h (fun c17 h => ?_) (fun c17 h => ?_)
            · refine G.sub (lv' := [(0, .ref a0), (1, .int a1), (2, .int a2), (3, .int s5.1), (4, .int s5.2.1)]) [0, 1, 2, 3, 4] rfl ?_
              exact Jj16 _ _ h
            · refine G.iload_n dX11_task_57 rfl rfl ?_
              refine G.aload_n dX11_task_58 rfl rfl ?_
              refine G.iload_n dX11_task_59 rfl rfl ?_
              refine G.iload dX11_task_60 rfl ?_
              refine G.callVi (ci := 11) [.int a2, .int s5.2.1] [.int s5.1] dX11_task_62 lkX11_302 okX11_soonFromFirst rfl (fun v hv => C_X11_soonFromFirst hv) (Nat.le_of_ble_eq_true rfl) rfl rfl (Nat.le_of_ble_eq_true rfl) h (fun v18 h => ?_)
              refine G.mmax dX11_task_65 lmX11_288 mm_max_1 mm_2 mm_max_3 (Nat.le_of_ble_eq_true rfl) (Nat.le_of_ble_eq_true rfl) ?_
              refine G.istore_n (lv' := [(3, .int (mxI s5.1 v18.1)), (0, .ref a0), (1, .int a1), (2, .int a2), (4, .int s5.2.1)]) dX11_task_68 rfl (Nat.le_of_ble_eq_true rfl) rfl ?_
              refine G.sub (lv' := [(0, .ref a0), (1, .int a1), (2, .int a2), (3, .int (mxI s5.1 v18.1)), (4, .int s5.2.1)]) [1, 2, 3, 0, 4] rfl ?_
              exact Jj16 _ _ h
-- OnlyUpward$World.isElder(III)Z
set_option maxRecDepth 100000 in
set_option maxHeartbeats 4000000 in
def F_X10_isElder (n : Nat) (M : AM) (a0 : Nat) (a1 : Int32) (a2 : Int32) (a3 : Int32) : Option Int32 :=
  (rcv 10 M a0 (F_X10_ageAt n M a0 a1 a3)).bind fun v1 => (rcv 10 M a0 (F_X10_ageAt n M a0 a2 a3)).bind fun v2 => jn (some (1 : Int32)) fun j3 => if v2 < v1 then j3 else if v1 = v2 then if a2 ≤ a1 then some (0 : Int32) else j3 else some (0 : Int32)
set_option maxRecDepth 100000 in
set_option maxHeartbeats 4000000 in
theorem C_X10_isElder {n : Nat} {M : AM} {a0 : Nat} {a1 : Int32} {a2 : Int32} {a3 : Int32} {o : Int32} (h : F_X10_isElder n M a0 a1 a2 a3 = some o) : Cn yX10_isElder cX10_isElder 6 (some .boolean) 1 [.ref a0, .int a1, .int a2, .int a3] M (some (.int o)) M := by
  unfold F_X10_isElder at h
  refine Cn.of rfl (Nat.le_of_ble_eq_true rfl) ?_
  show G yX10_isElder cX10_isElder 6 (some .boolean) 1 0 [(0, .ref a0), (1, .int a1), (2, .int a2), (3, .int a3)] [] M (some (.int o)) M
  refine G.aload_n dX10_isElder_0 rfl rfl ?_
  refine G.iload_n dX10_isElder_1 rfl rfl ?_
  refine G.iload_n dX10_isElder_2 rfl rfl ?_
  refine G.callVi (ci := 10) [.int a1, .int a3] [] dX10_isElder_3 lkX10_101 okX10_ageAt rfl (fun v hv => C_X10_ageAt hv) (Nat.le_of_ble_eq_true rfl) rfl rfl (Nat.le_of_ble_eq_true rfl) h (fun v1 h => ?_)
  refine G.istore (lv' := [(4, .int v1), (0, .ref a0), (1, .int a1), (2, .int a2), (3, .int a3)]) dX10_isElder_6 (Nat.le_of_ble_eq_true rfl) rfl ?_
  refine G.aload_n dX10_isElder_8 rfl rfl ?_
  refine G.iload_n dX10_isElder_9 rfl rfl ?_
  refine G.iload_n dX10_isElder_10 rfl rfl ?_
  refine G.callVi (ci := 10) [.int a2, .int a3] [] dX10_isElder_11 lkX10_101 okX10_ageAt rfl (fun v hv => C_X10_ageAt hv) (Nat.le_of_ble_eq_true rfl) rfl rfl (Nat.le_of_ble_eq_true rfl) h (fun v2 h => ?_)
  refine G.istore (lv' := [(5, .int v2), (4, .int v1), (0, .ref a0), (1, .int a1), (2, .int a2), (3, .int a3)]) dX10_isElder_14 (Nat.le_of_ble_eq_true rfl) rfl ?_
  refine G.iload dX10_isElder_16 rfl ?_
  refine G.iload dX10_isElder_18 rfl ?_
  refine jn_elim (fun j3 => j3 = some o → G yX10_isElder cX10_isElder 6 (some .boolean) 1 35 [] [] M (some (.int o)) M) h ?_ ?_
  · intro h
    refine G.iconst (1 : Int32) dX10_isElder_35 ki_1 ?_
    refine G.goto 40 dX10_isElder_36 (by decide) ?_
    exact G.iret dX10_isElder_40 rfl (by decide) h
  · intro j3 Jj3 h
    refine G.icmp_gt 35 dX10_isElder_20 (by decide) h (fun c4 h => ?_) (fun c4 h => ?_)
    · refine G.sub (lv' := []) [] rfl ?_
      exact Jj3  h
    · refine G.iload dX10_isElder_23 rfl ?_
      refine G.iload dX10_isElder_25 rfl ?_
      refine G.icmp_ne 39 dX10_isElder_27 (by decide) h (fun c5 h => ?_) (fun c5 h => ?_)
      · refine G.iload_n dX10_isElder_30 rfl rfl ?_
        refine G.iload_n dX10_isElder_31 rfl rfl ?_
        refine G.icmp_ge 39 dX10_isElder_32 (by decide) h (fun c6 h => ?_) (fun c6 h => ?_)
        · refine G.iconst (0 : Int32) dX10_isElder_39 ki_0 ?_
          exact G.iret dX10_isElder_40 rfl (by decide) h
        · refine G.sub (lv' := []) [] rfl ?_
          exact Jj3  h
      · refine G.iconst (0 : Int32) dX10_isElder_39 ki_0 ?_
        exact G.iret dX10_isElder_40 rfl (by decide) h
