-- OnlyUpward.knowMore(LOnlyUpward$Knowledge;II)I
set_option maxRecDepth 100000 in
set_option maxHeartbeats 4000000 in
def F_X11_knowMore (n : Nat) (M : AM) (a0 : Nat) (a1 : Nat) (a2 : Int32) (a3 : Int32) : Option Int32 :=
  (rcv 3 M a1 (F_X3_thingsOf n M a1 a2 a3)).bind fun v1 => (F_J6_bitCount_0f7a4 n M v1).bind fun v2 => (iter (fun (s3 : Int32 × Int32) => (gR 11 6 M a0).bind fun v4 => (gR 10 0 M v4).bind fun v5 => (rdI M v5 (1 : Int32)).bind fun v6 => if v6 ≤ s3.2 then some (.inr s3.1) else (rcv 3 M a1 (F_X3_thingsOf n M a1 s3.2 a3)).bind fun v8 => (F_J6_bitCount_0f7a4 n M v8).bind fun v9 => jn (fun (u10 : Int32) => some (.inl (u10, (s3.2 + (1 : Int32))))) fun j11 => jn (j11 (s3.1 + (1 : Int32))) fun j12 => if v2 < v9 then j12 else if v9 = v2 then (gR 11 6 M a0).bind fun v15 => (rcv 10 M v15 (F_X10_isElder n M v15 s3.2 a2 a3)).bind fun v16 => if v16 = 0 then j11 s3.1 else j12 else j11 s3.1) n ((0 : Int32), (0 : Int32))).bind fun (e3 : Int32) => some e3
set_option maxRecDepth 100000 in
set_option maxHeartbeats 4000000 in
theorem C_X11_knowMore {n : Nat} {M : AM} {a0 : Nat} {a1 : Nat} {a2 : Int32} {a3 : Int32} {o : Int32} (h : F_X11_knowMore n M a0 a1 a2 a3 = some o) : Cn yX11_knowMore cX11_knowMore 8 (some .int) 3 [.ref a0, .ref a1, .int a2, .int a3] M (some (.int o)) M := by
  unfold F_X11_knowMore at h
  refine Cn.of rfl (Nat.le_of_ble_eq_true rfl) ?_
  show G yX11_knowMore cX11_knowMore 8 (some .int) 3 0 [(0, .ref a0), (1, .ref a1), (2, .int a2), (3, .int a3)] [] M (some (.int o)) M
  refine G.aload_n dX11_knowMore_0 rfl rfl ?_
  refine G.iload_n dX11_knowMore_1 rfl rfl ?_
  refine G.iload_n dX11_knowMore_2 rfl rfl ?_
  refine G.callVi (ci := 3) [.int a2, .int a3] [] dX11_knowMore_3 lkX11_226 okX3_thingsOf rfl (fun v hv => C_X3_thingsOf hv) (Nat.le_of_ble_eq_true rfl) rfl rfl (Nat.le_of_ble_eq_true rfl) h (fun v1 h => ?_)
  refine G.callSi [.int v1] [] dX11_knowMore_6 lkX11_261 okJ6_bitCount_0f7a4 (fun v hv => C_J6_bitCount_0f7a4 hv) (Nat.le_of_ble_eq_true rfl) rfl rfl (Nat.le_of_ble_eq_true rfl) h (fun v2 h => ?_)
  refine G.istore (lv' := [(4, .int v2), (0, .ref a0), (1, .ref a1), (2, .int a2), (3, .int a3)]) dX11_knowMore_9 (Nat.le_of_ble_eq_true rfl) rfl ?_
  refine G.iconst (0 : Int32) dX11_knowMore_11 ki_0 ?_
  refine G.istore (lv' := [(5, .int (0 : Int32)), (4, .int v2), (0, .ref a0), (1, .ref a1), (2, .int a2), (3, .int a3)]) dX11_knowMore_12 (Nat.le_of_ble_eq_true rfl) rfl ?_
  refine G.iconst (0 : Int32) dX11_knowMore_14 ki_0 ?_
  refine G.istore (lv' := [(6, .int (0 : Int32)), (5, .int (0 : Int32)), (4, .int v2), (0, .ref a0), (1, .ref a1), (2, .int a2), (3, .int a3)]) dX11_knowMore_15 (Nat.le_of_ble_eq_true rfl) rfl ?_
  refine G.sub (lv' := [(0, .ref a0), (1, .ref a1), (2, .int a2), (3, .int a3), (4, .int v2), (5, .int (0 : Int32)), (6, .int (0 : Int32))]) [3, 4, 5, 6, 2, 1, 0] rfl ?_
  refine loopE (fun (s3 : Int32 × Int32) => G yX11_knowMore cX11_knowMore 8 (some .int) 3 17 [(0, .ref a0), (1, .ref a1), (2, .int a2), (3, .int a3), (4, .int v2), (5, .int s3.1), (6, .int s3.2)] [] M (some (.int o)) M) (fun (e3 : Int32) => G yX11_knowMore cX11_knowMore 8 (some .int) 3 80 [(5, .int e3)] [] M (some (.int o)) M) h ?_ ?_
  · intro e3 h
    show G yX11_knowMore cX11_knowMore 8 (some .int) 3 80 [(5, .int e3)] [] M (some (.int o)) M
    refine G.iload dX11_knowMore_80 rfl ?_
    exact G.iret dX11_knowMore_82 rfl (rfl) h
  · intro s3 x3 h K3
    show G yX11_knowMore cX11_knowMore 8 (some .int) 3 17 [(0, .ref a0), (1, .ref a1), (2, .int a2), (3, .int a3), (4, .int v2), (5, .int s3.1), (6, .int s3.2)] [] M (some (.int o)) M
    refine G.iload dX11_knowMore_17 rfl ?_
    refine G.aload_n dX11_knowMore_19 rfl rfl ?_
    refine G.getR dX11_knowMore_20 fkX11_46 fr11_6 h (fun v4 h => ?_)
    refine G.getR dX11_knowMore_23 fkX11_137 fr10_0 h (fun v5 h => ?_)
    refine G.iconst (1 : Int32) dX11_knowMore_26 ki_1 ?_
    refine G.iald dX11_knowMore_27 h (fun v6 h => ?_)
    refine G.icmp_ge 80 dX11_knowMore_28 (by decide) h (fun c7 h => ?_) (fun c7 h => ?_)
    · refine G.sub (lv' := [(5, .int s3.1)]) [5] rfl ?_
      have h := leafR' h K3
      exact h
    · refine G.aload_n dX11_knowMore_31 rfl rfl ?_
      refine G.iload dX11_knowMore_32 rfl ?_
      refine G.iload_n dX11_knowMore_34 rfl rfl ?_
      refine G.callVi (ci := 3) [.int s3.2, .int a3] [] dX11_knowMore_35 lkX11_226 okX3_thingsOf rfl (fun v hv => C_X3_thingsOf hv) (Nat.le_of_ble_eq_true rfl) rfl rfl (Nat.le_of_ble_eq_true rfl) h (fun v8 h => ?_)
      refine G.callSi [.int v8] [] dX11_knowMore_38 lkX11_261 okJ6_bitCount_0f7a4 (fun v hv => C_J6_bitCount_0f7a4 hv) (Nat.le_of_ble_eq_true rfl) rfl rfl (Nat.le_of_ble_eq_true rfl) h (fun v9 h => ?_)
      refine G.istore (lv' := [(7, .int v9), (0, .ref a0), (1, .ref a1), (2, .int a2), (3, .int a3), (4, .int v2), (5, .int s3.1), (6, .int s3.2)]) dX11_knowMore_41 (Nat.le_of_ble_eq_true rfl) rfl ?_
      refine G.iload dX11_knowMore_43 rfl ?_
      refine G.iload dX11_knowMore_45 rfl ?_
      refine jn_elim (fun j11 => ∀ (u10 : Int32), j11 u10 = some x3 → G yX11_knowMore cX11_knowMore 8 (some .int) 3 74 [(0, .ref a0), (1, .ref a1), (2, .int a2), (3, .int a3), (4, .int v2), (5, .int u10), (6, .int s3.2)] [] M (some (.int o)) M) h ?_ ?_
      · intro u10 h
        refine G.iinc s3.2 (w := (s3.2 + (1 : Int32))) (lv' := [(6, .int (s3.2 + (1 : Int32))), (0, .ref a0), (1, .ref a1), (2, .int a2), (3, .int a3), (4, .int v2), (5, .int u10)]) dX11_knowMore_74 rfl rfl (Nat.le_of_ble_eq_true rfl) rfl ?_
        refine G.goto 17 dX11_knowMore_77 (by decide) ?_
        refine G.sub (lv' := [(0, .ref a0), (1, .ref a1), (2, .int a2), (3, .int a3), (4, .int v2), (5, .int u10), (6, .int (s3.2 + (1 : Int32)))]) [1, 2, 3, 4, 5, 6, 0] rfl ?_
        have h := leafL' h K3
        exact h
      · intro j11 Jj11 h
        refine jn_elim (fun j12 => j12 = some x3 → G yX11_knowMore cX11_knowMore 8 (some .int) 3 71 [(0, .ref a0), (1, .ref a1), (2, .int a2), (3, .int a3), (4, .int v2), (5, .int s3.1), (6, .int s3.2)] [] M (some (.int o)) M) h ?_ ?_
        · intro h
          refine G.iinc s3.1 (w := (s3.1 + (1 : Int32))) (lv' := [(5, .int (s3.1 + (1 : Int32))), (0, .ref a0), (1, .ref a1), (2, .int a2), (3, .int a3), (4, .int v2), (6, .int s3.2)]) dX11_knowMore_71 rfl rfl (Nat.le_of_ble_eq_true rfl) rfl ?_
          refine G.sub (lv' := [(0, .ref a0), (1, .ref a1), (2, .int a2), (3, .int a3), (4, .int v2), (5, .int (s3.1 + (1 : Int32))), (6, .int s3.2)]) [1, 2, 3, 4, 5, 0, 6] rfl ?_
          exact Jj11 _ h
        · intro j12 Jj12 h
          refine G.icmp_gt 71 dX11_knowMore_47 (by decide) h (fun c13 h => ?_) (fun c13 h => ?_)
          · refine G.sub (lv' := [(0, .ref a0), (1, .ref a1), (2, .int a2), (3, .int a3), (4, .int v2), (5, .int s3.1), (6, .int s3.2)]) [1, 2, 3, 4, 5, 6, 7] rfl ?_
            exact Jj12  h
          · refine G.iload dX11_knowMore_50 rfl ?_
            refine G.iload dX11_knowMore_52 rfl ?_
            refine G.icmp_ne 74 dX11_knowMore_54 (by decide) h (fun c14 h => ?_) (fun c14 h => ?_)
            · refine G.aload_n dX11_knowMore_57 rfl rfl ?_
              refine G.getR dX11_knowMore_58 fkX11_46 fr11_6 h (fun v15 h => ?_)
              refine G.iload dX11_knowMore_61 rfl ?_
              refine G.iload_n dX11_knowMore_63 rfl rfl ?_
              refine G.iload_n dX11_knowMore_64 rfl rfl ?_
              refine G.callVi (ci := 10) [.int s3.2, .int a2, .int a3] [] dX11_knowMore_65 lkX11_266 okX10_isElder rfl (fun v hv => C_X10_isElder hv) (Nat.le_of_ble_eq_true rfl) rfl rfl (Nat.le_of_ble_eq_true rfl) h (fun v16 h => ?_)
              refine G.if_eq 74 dX11_knowMore_68 (by decide) h (fun c17 h => ?_) (fun c17 h => ?_)
              · refine G.sub (lv' := [(0, .ref a0), (1, .ref a1), (2, .int a2), (3, .int a3), (4, .int v2), (5, .int s3.1), (6, .int s3.2)]) [1, 2, 3, 4, 5, 6, 7] rfl ?_
                exact Jj11 _ h
              · refine G.sub (lv' := [(0, .ref a0), (1, .ref a1), (2, .int a2), (3, .int a3), (4, .int v2), (5, .int s3.1), (6, .int s3.2)]) [1, 2, 3, 4, 5, 6, 7] rfl ?_
                exact Jj12  h
            · refine G.sub (lv' := [(0, .ref a0), (1, .ref a1), (2, .int a2), (3, .int a3), (4, .int v2), (5, .int s3.1), (6, .int s3.2)]) [1, 2, 3, 4, 5, 6, 7] rfl ?_
              exact Jj11 _ h
-- OnlyUpward.rank(II)I
set_option maxRecDepth 100000 in
set_option maxHeartbeats 4000000 in
def F_X11_rank (n : Nat) (M : AM) (a0 : Nat) (a1 : Int32) (a2 : Int32) : Option (Int32 × AM) :=
  (F_X11_isHourOrEnd n M a1).bind fun v1 => if v1 = 0 then some ((-1 : Int32), M) else (rcv 11 M a0 (F_X11_isOne n M a0 (1 : Int32) a2)).bind fun v3 => if v3 = 0 then some ((-1 : Int32), M) else (rcv 11 M a0 (F_X11_planCourse n M a0)).bind fun v5 => (gR 1 0 v5.2 v5.1).bind fun v6 => (iter (fun (s7 : Int32) => (gR 11 6 v5.2 a0).bind fun v8 => (gR 10 0 v5.2 v8).bind fun v9 => (rdI v5.2 v9 (1 : Int32)).bind fun v10 => if v10 ≤ s7 then some (.inr (.inl ())) else (rcv 11 v5.2 a0 (F_X11_knowMore n v5.2 a0 v6 s7 a1)).bind fun v12 => if v12 = a2 then some (.inr (.inr (s7, v5.2))) else some (.inl (s7 + (1 : Int32)))) n (0 : Int32)).bind fun (z7 : (Unit) ⊕ (Int32 × AM)) => Sum.elim (fun (e7 : Unit) => some ((-1 : Int32), v5.2)) (fun (v : (Int32 × AM)) => some v) z7
set_option maxRecDepth 100000 in
set_option maxHeartbeats 4000000 in
theorem C_X11_rank {n : Nat} {M : AM} {a0 : Nat} {a1 : Int32} {a2 : Int32} {o : (Int32 × AM)} (h : F_X11_rank n M a0 a1 a2 = some o) : Cn yX11_rank cX11_rank 5 (some .int) 7 [.ref a0, .int a1, .int a2] M (some (.int o.1)) o.2 := by
  unfold F_X11_rank at h
  refine Cn.of rfl (Nat.le_of_ble_eq_true rfl) ?_
  show G yX11_rank cX11_rank 5 (some .int) 7 0 [(0, .ref a0), (1, .int a1), (2, .int a2)] [] M (some (.int o.1)) o.2
  refine G.iload_n dX11_rank_0 rfl rfl ?_
  refine G.callSi [.int a1] [] dX11_rank_1 lkX11_219 okX11_isHourOrEnd (fun v hv => C_X11_isHourOrEnd hv) (Nat.le_of_ble_eq_true rfl) rfl rfl (Nat.le_of_ble_eq_true rfl) h (fun v1 h => ?_)
  refine G.if_eq 16 dX11_rank_4 (by decide) h (fun c2 h => ?_) (fun c2 h => ?_)
  · refine G.iconst (-1 : Int32) dX11_rank_16 ki_m1 ?_
    exact G.iretW dX11_rank_17 rfl (rfl) h
  · refine G.aload_n dX11_rank_7 rfl rfl ?_
    refine G.iconst (1 : Int32) dX11_rank_8 ki_1 ?_
    refine G.iload_n dX11_rank_9 rfl rfl ?_
    refine G.callVi (ci := 11) [.int (1 : Int32), .int a2] [] dX11_rank_10 lkX11_141 okX11_isOne rfl (fun v hv => C_X11_isOne hv) (Nat.le_of_ble_eq_true rfl) rfl rfl (Nat.le_of_ble_eq_true rfl) h (fun v3 h => ?_)
    refine G.if_ne 18 dX11_rank_13 (by decide) h (fun c4 h => ?_) (fun c4 h => ?_)
    · refine G.iconst (-1 : Int32) dX11_rank_16 ki_m1 ?_
      exact G.iretW dX11_rank_17 rfl (rfl) h
    · refine G.aload_n dX11_rank_18 rfl rfl ?_
      refine G.callVr (ci := 11) [] [] dX11_rank_19 lkX11_189 okX11_planCourse rfl (fun v hv => C_X11_planCourse hv) (Nat.le_of_ble_eq_true rfl) rfl rfl (Nat.le_of_ble_eq_true rfl) h (fun v5 h => ?_)
      refine G.getR dX11_rank_22 fkX11_222 fr1_0 h (fun v6 h => ?_)
      refine G.astore_n (lv' := [(3, .ref v6), (0, .ref a0), (1, .int a1), (2, .int a2)]) dX11_rank_25 rfl (Nat.le_of_ble_eq_true rfl) rfl ?_
      refine G.iconst (0 : Int32) dX11_rank_26 ki_0 ?_
      refine G.istore (lv' := [(4, .int (0 : Int32)), (3, .ref v6), (0, .ref a0), (1, .int a1), (2, .int a2)]) dX11_rank_27 (Nat.le_of_ble_eq_true rfl) rfl ?_
      refine G.sub (lv' := [(0, .ref a0), (1, .int a1), (2, .int a2), (3, .ref v6), (4, .int (0 : Int32))]) [2, 3, 4, 1, 0] rfl ?_
      refine loopE (fun (s7 : Int32) => G yX11_rank cX11_rank 5 (some .int) 7 29 [(0, .ref a0), (1, .int a1), (2, .int a2), (3, .ref v6), (4, .int s7)] [] v5.2 (some (.int o.1)) o.2) (fun (z7 : (Unit) ⊕ (Int32 × AM)) => Sum.elim (fun (e7 : Unit) => G yX11_rank cX11_rank 5 (some .int) 7 64 [] [] v5.2 (some (.int o.1)) o.2) (fun (v : (Int32 × AM)) => some v = some o) z7) h ?_ ?_
      · intro z7 h
        rcases z7 with e7 | v
        · have h := sum_inl h
          show G yX11_rank cX11_rank 5 (some .int) 7 64 [] [] v5.2 (some (.int o.1)) o.2
          refine G.iconst (-1 : Int32) dX11_rank_64 ki_m1 ?_
          exact G.iretW dX11_rank_65 rfl (rfl) h
        · have h := sum_inr h
          exact h
      · intro s7 x7 h K7
        show G yX11_rank cX11_rank 5 (some .int) 7 29 [(0, .ref a0), (1, .int a1), (2, .int a2), (3, .ref v6), (4, .int s7)] [] v5.2 (some (.int o.1)) o.2
        refine G.iload dX11_rank_29 rfl ?_
        refine G.aload_n dX11_rank_31 rfl rfl ?_
        refine G.getR dX11_rank_32 fkX11_46 fr11_6 h (fun v8 h => ?_)
        refine G.getR dX11_rank_35 fkX11_137 fr10_0 h (fun v9 h => ?_)
        refine G.iconst (1 : Int32) dX11_rank_38 ki_1 ?_
        refine G.iald dX11_rank_39 h (fun v10 h => ?_)
        refine G.icmp_ge 64 dX11_rank_40 (by decide) h (fun c11 h => ?_) (fun c11 h => ?_)
        · refine G.sub (lv' := []) [] rfl ?_
          have h := leafR' h K7
          exact h
        · refine G.aload_n dX11_rank_43 rfl rfl ?_
          refine G.aload_n dX11_rank_44 rfl rfl ?_
          refine G.iload dX11_rank_45 rfl ?_
          refine G.iload_n dX11_rank_47 rfl rfl ?_
          refine G.callVi (ci := 11) [.ref v6, .int s7, .int a1] [] dX11_rank_48 lkX11_258 okX11_knowMore rfl (fun v hv => C_X11_knowMore hv) (Nat.le_of_ble_eq_true rfl) rfl rfl (Nat.le_of_ble_eq_true rfl) h (fun v12 h => ?_)
          refine G.iload_n dX11_rank_51 rfl rfl ?_
          refine G.icmp_ne 58 dX11_rank_52 (by decide) h (fun c13 h => ?_) (fun c13 h => ?_)
          · refine G.iload dX11_rank_55 rfl ?_
            have h := leafR' h K7
            exact G.iretW dX11_rank_57 rfl (rfl) h
          · refine G.iinc s7 (w := (s7 + (1 : Int32))) (lv' := [(4, .int (s7 + (1 : Int32))), (0, .ref a0), (1, .int a1), (2, .int a2), (3, .ref v6)]) dX11_rank_58 rfl rfl (Nat.le_of_ble_eq_true rfl) rfl ?_
            refine G.goto 29 dX11_rank_61 (by decide) ?_
            refine G.sub (lv' := [(0, .ref a0), (1, .int a1), (2, .int a2), (3, .ref v6), (4, .int (s7 + (1 : Int32)))]) [1, 2, 3, 4, 0] rfl ?_
            have h := leafL' h K7
            exact h
-- OnlyUpward$World.elder(II)I
set_option maxRecDepth 100000 in
set_option maxHeartbeats 4000000 in
def F_X10_elder (n : Nat) (M : AM) (a0 : Nat) (a1 : Int32) (a2 : Int32) : Option Int32 :=
  (iter (fun (s1 : Int32) => (gR 10 0 M a0).bind fun v2 => (rdI M v2 (1 : Int32)).bind fun v3 => if v3 ≤ s1 then some (.inr (.inl ())) else (iter (fun (s5 : Int32 × Int32) => (gR 10 0 M a0).bind fun v6 => (rdI M v6 (1 : Int32)).bind fun v7 => if v7 ≤ s5.2 then some (.inr s5.1) else (rcv 10 M a0 (F_X10_isElder n M a0 s5.2 s1 a2)).bind fun v9 => jn (fun (u10 : Int32) => some (.inl ((s5.1 + u10), (s5.2 + (1 : Int32))))) fun j11 => if v9 = 0 then j11 (0 : Int32) else j11 (1 : Int32)) n ((0 : Int32), (0 : Int32))).bind fun (e5 : Int32) => if e5 = a1 then some (.inr (.inr s1)) else some (.inl (s1 + (1 : Int32)))) n (0 : Int32)).bind fun (z1 : (Unit) ⊕ Int32) => Sum.elim (fun (e1 : Unit) => some (0 : Int32)) (fun (v : Int32) => some v) z1
set_option maxRecDepth 100000 in
set_option maxHeartbeats 4000000 in
theorem C_X10_elder {n : Nat} {M : AM} {a0 : Nat} {a1 : Int32} {a2 : Int32} {o : Int32} (h : F_X10_elder n M a0 a1 a2 = some o) : Cn yX10_elder cX10_elder 6 (some .int) 2 [.ref a0, .int a1, .int a2] M (some (.int o)) M := by
  unfold F_X10_elder at h
  refine Cn.of rfl (Nat.le_of_ble_eq_true rfl) ?_
  show G yX10_elder cX10_elder 6 (some .int) 2 0 [(0, .ref a0), (1, .int a1), (2, .int a2)] [] M (some (.int o)) M
  refine G.iconst (0 : Int32) dX10_elder_0 ki_0 ?_
  refine G.istore_n (lv' := [(3, .int (0 : Int32)), (0, .ref a0), (1, .int a1), (2, .int a2)]) dX10_elder_1 rfl (Nat.le_of_ble_eq_true rfl) rfl ?_
  refine G.sub (lv' := [(0, .ref a0), (1, .int a1), (2, .int a2), (3, .int (0 : Int32))]) [1, 2, 3, 0] rfl ?_
  refine loopE (fun (s1 : Int32) => G yX10_elder cX10_elder 6 (some .int) 2 2 [(0, .ref a0), (1, .int a1), (2, .int a2), (3, .int s1)] [] M (some (.int o)) M) (fun (z1 : (Unit) ⊕ Int32) => Sum.elim (fun (e1 : Unit) => G yX10_elder cX10_elder 6 (some .int) 2 70 [] [] M (some (.int o)) M) (fun (v : Int32) => some v = some o) z1) h ?_ ?_
  · intro z1 h
    rcases z1 with e1 | v
    · have h := sum_inl h
      show G yX10_elder cX10_elder 6 (some .int) 2 70 [] [] M (some (.int o)) M
      refine G.iconst (0 : Int32) dX10_elder_70 ki_0 ?_
      exact G.iret dX10_elder_71 rfl (rfl) h
    · have h := sum_inr h
      exact h
  · intro s1 x1 h K1
    show G yX10_elder cX10_elder 6 (some .int) 2 2 [(0, .ref a0), (1, .int a1), (2, .int a2), (3, .int s1)] [] M (some (.int o)) M
    refine G.iload_n dX10_elder_2 rfl rfl ?_
    refine G.aload_n dX10_elder_3 rfl rfl ?_
    refine G.getR dX10_elder_4 fkX10_9 fr10_0 h (fun v2 h => ?_)
    refine G.iconst (1 : Int32) dX10_elder_7 ki_1 ?_
    refine G.iald dX10_elder_8 h (fun v3 h => ?_)
    refine G.icmp_ge 70 dX10_elder_9 (by decide) h (fun c4 h => ?_) (fun c4 h => ?_)
    · refine G.sub (lv' := []) [] rfl ?_
      have h := leafR' h K1
      exact h
    · refine G.iconst (0 : Int32) dX10_elder_12 ki_0 ?_
      refine G.istore (lv' := [(4, .int (0 : Int32)), (0, .ref a0), (1, .int a1), (2, .int a2), (3, .int s1)]) dX10_elder_13 (Nat.le_of_ble_eq_true rfl) rfl ?_
      refine G.iconst (0 : Int32) dX10_elder_15 ki_0 ?_
      refine G.istore (lv' := [(5, .int (0 : Int32)), (4, .int (0 : Int32)), (0, .ref a0), (1, .int a1), (2, .int a2), (3, .int s1)]) dX10_elder_16 (Nat.le_of_ble_eq_true rfl) rfl ?_
      refine G.sub (lv' := [(0, .ref a0), (1, .int a1), (2, .int a2), (3, .int s1), (4, .int (0 : Int32)), (5, .int (0 : Int32))]) [2, 3, 4, 5, 1, 0] rfl ?_
      refine loopE (fun (s5 : Int32 × Int32) => G yX10_elder cX10_elder 6 (some .int) 2 18 [(0, .ref a0), (1, .int a1), (2, .int a2), (3, .int s1), (4, .int s5.1), (5, .int s5.2)] [] M (some (.int o)) M) (fun (e5 : Int32) => G yX10_elder cX10_elder 6 (some .int) 2 56 [(0, .ref a0), (1, .int a1), (2, .int a2), (3, .int s1), (4, .int e5)] [] M (some (.int o)) M) h ?_ ?_
      · intro e5 h
        show G yX10_elder cX10_elder 6 (some .int) 2 56 [(0, .ref a0), (1, .int a1), (2, .int a2), (3, .int s1), (4, .int e5)] [] M (some (.int o)) M
        refine G.iload dX10_elder_56 rfl ?_
        refine G.iload_n dX10_elder_58 rfl rfl ?_
        refine G.icmp_ne 64 dX10_elder_59 (by decide) h (fun c13 h => ?_) (fun c13 h => ?_)
        · refine G.iload_n dX10_elder_62 rfl rfl ?_
          have h := leafR' h K1
          exact G.iret dX10_elder_63 rfl (rfl) h
        · refine G.iinc s1 (w := (s1 + (1 : Int32))) (lv' := [(3, .int (s1 + (1 : Int32))), (0, .ref a0), (1, .int a1), (2, .int a2), (4, .int e5)]) dX10_elder_64 rfl rfl (Nat.le_of_ble_eq_true rfl) rfl ?_
          refine G.goto 2 dX10_elder_67 (by decide) ?_
          refine G.sub (lv' := [(0, .ref a0), (1, .int a1), (2, .int a2), (3, .int (s1 + (1 : Int32)))]) [1, 2, 3, 0] rfl ?_
          have h := leafL' h K1
          exact h
      · intro s5 x5 h K5
        show G yX10_elder cX10_elder 6 (some .int) 2 18 [(0, .ref a0), (1, .int a1), (2, .int a2), (3, .int s1), (4, .int s5.1), (5, .int s5.2)] [] M (some (.int o)) M
        refine G.iload dX10_elder_18 rfl ?_
        refine G.aload_n dX10_elder_20 rfl rfl ?_
        refine G.getR dX10_elder_21 fkX10_9 fr10_0 h (fun v6 h => ?_)
        refine G.iconst (1 : Int32) dX10_elder_24 ki_1 ?_
        refine G.iald dX10_elder_25 h (fun v7 h => ?_)
        refine G.icmp_ge 56 dX10_elder_26 (by decide) h (fun c8 h => ?_) (fun c8 h => ?_)
        · refine G.sub (lv' := [(0, .ref a0), (1, .int a1), (2, .int a2), (3, .int s1), (4, .int s5.1)]) [0, 1, 2, 3, 4] rfl ?_
          have h := leafR' h K5
          exact h
        · refine G.iload dX10_elder_29 rfl ?_
          refine G.aload_n dX10_elder_31 rfl rfl ?_
          refine G.iload dX10_elder_32 rfl ?_
          refine G.iload_n dX10_elder_34 rfl rfl ?_
          refine G.iload_n dX10_elder_35 rfl rfl ?_
          refine G.callVi (ci := 10) [.int s5.2, .int s1, .int a2] [.int s5.1] dX10_elder_36 lkX10_104 okX10_isElder rfl (fun v hv => C_X10_isElder hv) (Nat.le_of_ble_eq_true rfl) rfl rfl (Nat.le_of_ble_eq_true rfl) h (fun v9 h => ?_)
          refine jn_elim (fun j11 => ∀ (u10 : Int32), j11 u10 = some x5 → G yX10_elder cX10_elder 6 (some .int) 2 47 [(0, .ref a0), (1, .int a1), (2, .int a2), (3, .int s1), (5, .int s5.2)] [.int u10, .int s5.1] M (some (.int o)) M) h ?_ ?_
          · intro u10 h
            refine G.iadd dX10_elder_47 ?_
            refine G.istore (lv' := [(4, .int (s5.1 + u10)), (0, .ref a0), (1, .int a1), (2, .int a2), (3, .int s1), (5, .int s5.2)]) dX10_elder_48 (Nat.le_of_ble_eq_true rfl) rfl ?_
            refine G.iinc s5.2 (w := (s5.2 + (1 : Int32))) (lv' := [(5, .int (s5.2 + (1 : Int32))), (4, .int (s5.1 + u10)), (0, .ref a0), (1, .int a1), (2, .int a2), (3, .int s1)]) dX10_elder_50 rfl rfl (Nat.le_of_ble_eq_true rfl) rfl ?_
            refine G.goto 18 dX10_elder_53 (by decide) ?_
            refine G.sub (lv' := [(0, .ref a0), (1, .int a1), (2, .int a2), (3, .int s1), (4, .int (s5.1 + u10)), (5, .int (s5.2 + (1 : Int32)))]) [2, 3, 4, 5, 1, 0] rfl ?_
            have h := leafL' h K5
            exact h
          · intro j11 Jj11 h
            refine G.if_eq 46 dX10_elder_39 (by decide) h (fun c12 h => ?_) (fun c12 h => ?_)
            · refine G.iconst (0 : Int32) dX10_elder_46 ki_0 ?_
              refine G.sub (lv' := [(0, .ref a0), (1, .int a1), (2, .int a2), (3, .int s1), (5, .int s5.2)]) [0, 1, 2, 3, 5] rfl ?_
              exact Jj11 _ h
            · refine G.iconst (1 : Int32) dX10_elder_42 ki_1 ?_
              refine G.goto 47 dX10_elder_43 (by decide) ?_
              refine G.sub (lv' := [(0, .ref a0), (1, .int a1), (2, .int a2), (3, .int s1), (5, .int s5.2)]) [0, 1, 2, 3, 5] rfl ?_
              exact Jj11 _ h
-- OnlyUpward.share(III)I
set_option maxRecDepth 100000 in
set_option maxHeartbeats 4000000 in
def F_X11_share (n : Nat) (M : AM) (a0 : Nat) (a1 : Int32) (a2 : Int32) (a3 : Int32) : Option (Int32 × AM) :=
  (F_X11_isHourOrEnd n M a1).bind fun v1 => if v1 = 0 then some ((-1 : Int32), M) else if a2 < 0 then some ((-1 : Int32), M) else if (10 : Int32) < a2 then some ((-1 : Int32), M) else if a3 < 0 then some ((-1 : Int32), M) else if a3 ≤ (1 : Int32) then jn (fun (u7 : Int32) => (iter (fun (s8 : Int32 × Int32 × AM) => (gR 11 6 s8.2.2 a0).bind fun v9 => (gR 10 0 s8.2.2 v9).bind fun v10 => (rdI s8.2.2 v10 (1 : Int32)).bind fun v11 => if v11 ≤ s8.2.1 then some (.inr (s8.1, s8.2.2)) else if u7 ≤ s8.2.1 then some (.inr (s8.1, s8.2.2)) else (rcv 11 s8.2.2 a0 (F_X11_planCourse n s8.2.2 a0)).bind fun v14 => (gR 1 0 v14.2 v14.1).bind fun v15 => (gR 11 6 v14.2 a0).bind fun v16 => (rcv 10 v14.2 v16 (F_X10_elder n v14.2 v16 s8.2.1 (0 : Int32))).bind fun v17 => (rcv 3 v14.2 v15 (F_X3_thingsOf n v14.2 v15 v17 a1)).bind fun v18 => (F_J6_bitCount_0f7a4 n v14.2 v18).bind fun v19 => some (.inl ((s8.1 + v19), (s8.2.1 + (1 : Int32)), v14.2))) n ((0 : Int32), (0 : Int32), M)).bind fun (e8 : Int32 × AM) => some (e8.1, e8.2)) fun j20 => if a3 = (1 : Int32) then j20 (10 : Int32) else j20 a2 else some ((-1 : Int32), M)
set_option maxRecDepth 100000 in
set_option maxHeartbeats 4000000 in
theorem C_X11_share {n : Nat} {M : AM} {a0 : Nat} {a1 : Int32} {a2 : Int32} {a3 : Int32} {o : (Int32 × AM)} (h : F_X11_share n M a0 a1 a2 a3 = some o) : Cn yX11_share cX11_share 7 (some .int) 7 [.ref a0, .int a1, .int a2, .int a3] M (some (.int o.1)) o.2 := by
  unfold F_X11_share at h
  refine Cn.of rfl (Nat.le_of_ble_eq_true rfl) ?_
  show G yX11_share cX11_share 7 (some .int) 7 0 [(0, .ref a0), (1, .int a1), (2, .int a2), (3, .int a3)] [] M (some (.int o.1)) o.2
  refine G.iload_n dX11_share_0 rfl rfl ?_
  refine G.callSi [.int a1] [] dX11_share_1 lkX11_219 okX11_isHourOrEnd (fun v hv => C_X11_isHourOrEnd hv) (Nat.le_of_ble_eq_true rfl) rfl rfl (Nat.le_of_ble_eq_true rfl) h (fun v1 h => ?_)
  refine G.if_eq 26 dX11_share_4 (by decide) h (fun c2 h => ?_) (fun c2 h => ?_)
  · refine G.iconst (-1 : Int32) dX11_share_26 ki_m1 ?_
    exact G.iretW dX11_share_27 rfl (rfl) h
  · refine G.iload_n dX11_share_7 rfl rfl ?_
    refine G.if_lt 26 dX11_share_8 (by decide) h (fun c3 h => ?_) (fun c3 h => ?_)
    · refine G.iconst (-1 : Int32) dX11_share_26 ki_m1 ?_
      exact G.iretW dX11_share_27 rfl (rfl) h
    · refine G.iload_n dX11_share_11 rfl rfl ?_
      refine G.bipush (10 : Int32) dX11_share_12 kb_10 ?_
      refine G.icmp_gt 26 dX11_share_14 (by decide) h (fun c4 h => ?_) (fun c4 h => ?_)
      · refine G.iconst (-1 : Int32) dX11_share_26 ki_m1 ?_
        exact G.iretW dX11_share_27 rfl (rfl) h
      · refine G.iload_n dX11_share_17 rfl rfl ?_
        refine G.if_lt 26 dX11_share_18 (by decide) h (fun c5 h => ?_) (fun c5 h => ?_)
        · refine G.iconst (-1 : Int32) dX11_share_26 ki_m1 ?_
          exact G.iretW dX11_share_27 rfl (rfl) h
        · refine G.iload_n dX11_share_21 rfl rfl ?_
          refine G.iconst (1 : Int32) dX11_share_22 ki_1 ?_
          refine G.icmp_le 28 dX11_share_23 (by decide) h (fun c6 h => ?_) (fun c6 h => ?_)
          · refine G.iload_n dX11_share_28 rfl rfl ?_
            refine G.iconst (1 : Int32) dX11_share_29 ki_1 ?_
            refine jn_elim (fun j20 => ∀ (u7 : Int32), j20 u7 = some o → G yX11_share cX11_share 7 (some .int) 7 39 [(0, .ref a0), (1, .int a1)] [.int u7] M (some (.int o.1)) o.2) h ?_ ?_
            · intro u7 h
              refine G.istore (lv' := [(4, .int u7), (0, .ref a0), (1, .int a1)]) dX11_share_39 (Nat.le_of_ble_eq_true rfl) rfl ?_
              refine G.iconst (0 : Int32) dX11_share_41 ki_0 ?_
              refine G.istore (lv' := [(5, .int (0 : Int32)), (4, .int u7), (0, .ref a0), (1, .int a1)]) dX11_share_42 (Nat.le_of_ble_eq_true rfl) rfl ?_
              refine G.iconst (0 : Int32) dX11_share_44 ki_0 ?_
              refine G.istore (lv' := [(6, .int (0 : Int32)), (5, .int (0 : Int32)), (4, .int u7), (0, .ref a0), (1, .int a1)]) dX11_share_45 (Nat.le_of_ble_eq_true rfl) rfl ?_
              refine G.sub (lv' := [(0, .ref a0), (1, .int a1), (4, .int u7), (5, .int (0 : Int32)), (6, .int (0 : Int32))]) [3, 4, 2, 1, 0] rfl ?_
              refine loopE (fun (s8 : Int32 × Int32 × AM) => G yX11_share cX11_share 7 (some .int) 7 47 [(0, .ref a0), (1, .int a1), (4, .int u7), (5, .int s8.1), (6, .int s8.2.1)] [] s8.2.2 (some (.int o.1)) o.2) (fun (e8 : Int32 × AM) => G yX11_share cX11_share 7 (some .int) 7 103 [(5, .int e8.1)] [] e8.2 (some (.int o.1)) o.2) h ?_ ?_
              · intro e8 h
                show G yX11_share cX11_share 7 (some .int) 7 103 [(5, .int e8.1)] [] e8.2 (some (.int o.1)) o.2
                refine G.iload dX11_share_103 rfl ?_
                exact G.iretW dX11_share_105 rfl (rfl) h
              · intro s8 x8 h K8
                show G yX11_share cX11_share 7 (some .int) 7 47 [(0, .ref a0), (1, .int a1), (4, .int u7), (5, .int s8.1), (6, .int s8.2.1)] [] s8.2.2 (some (.int o.1)) o.2
                refine G.iload dX11_share_47 rfl ?_
                refine G.aload_n dX11_share_49 rfl rfl ?_
                refine G.getR dX11_share_50 fkX11_46 fr11_6 h (fun v9 h => ?_)
                refine G.getR dX11_share_53 fkX11_137 fr10_0 h (fun v10 h => ?_)
                refine G.iconst (1 : Int32) dX11_share_56 ki_1 ?_
                refine G.iald dX11_share_57 h (fun v11 h => ?_)
                refine G.icmp_ge 103 dX11_share_58 (by decide) h (fun c12 h => ?_) (fun c12 h => ?_)
                · refine G.sub (lv' := [(5, .int s8.1)]) [3] rfl ?_
                  have h := leafR' h K8
                  exact h
                · refine G.iload dX11_share_61 rfl ?_
                  refine G.iload dX11_share_63 rfl ?_
                  refine G.icmp_ge 103 dX11_share_65 (by decide) h (fun c13 h => ?_) (fun c13 h => ?_)
                  · refine G.sub (lv' := [(5, .int s8.1)]) [3] rfl ?_
                    have h := leafR' h K8
                    exact h
                  · refine G.iload dX11_share_68 rfl ?_
                    refine G.aload_n dX11_share_70 rfl rfl ?_
                    refine G.callVr (ci := 11) [] [.int s8.1] dX11_share_71 lkX11_189 okX11_planCourse rfl (fun v hv => C_X11_planCourse hv) (Nat.le_of_ble_eq_true rfl) rfl rfl (Nat.le_of_ble_eq_true rfl) h (fun v14 h => ?_)
                    refine G.getR dX11_share_74 fkX11_222 fr1_0 h (fun v15 h => ?_)
                    refine G.aload_n dX11_share_77 rfl rfl ?_
                    refine G.getR dX11_share_78 fkX11_46 fr11_6 h (fun v16 h => ?_)
                    refine G.iload dX11_share_81 rfl ?_
                    refine G.iconst (0 : Int32) dX11_share_83 ki_0 ?_
                    refine G.callVi (ci := 10) [.int s8.2.1, .int (0 : Int32)] [.ref v15, .int s8.1] dX11_share_84 lkX11_270 okX10_elder rfl (fun v hv => C_X10_elder hv) (Nat.le_of_ble_eq_true rfl) rfl rfl (Nat.le_of_ble_eq_true rfl) h (fun v17 h => ?_)
                    refine G.iload_n dX11_share_87 rfl rfl ?_
                    refine G.callVi (ci := 3) [.int v17, .int a1] [.int s8.1] dX11_share_88 lkX11_226 okX3_thingsOf rfl (fun v hv => C_X3_thingsOf hv) (Nat.le_of_ble_eq_true rfl) rfl rfl (Nat.le_of_ble_eq_true rfl) h (fun v18 h => ?_)
                    refine G.callSi [.int v18] [.int s8.1] dX11_share_91 lkX11_261 okJ6_bitCount_0f7a4 (fun v hv => C_J6_bitCount_0f7a4 hv) (Nat.le_of_ble_eq_true rfl) rfl rfl (Nat.le_of_ble_eq_true rfl) h (fun v19 h => ?_)
                    refine G.iadd dX11_share_94 ?_
                    refine G.istore (lv' := [(5, .int (s8.1 + v19)), (0, .ref a0), (1, .int a1), (4, .int u7), (6, .int s8.2.1)]) dX11_share_95 (Nat.le_of_ble_eq_true rfl) rfl ?_
                    refine G.iinc s8.2.1 (w := (s8.2.1 + (1 : Int32))) (lv' := [(6, .int (s8.2.1 + (1 : Int32))), (5, .int (s8.1 + v19)), (0, .ref a0), (1, .int a1), (4, .int u7)]) dX11_share_97 rfl rfl (Nat.le_of_ble_eq_true rfl) rfl ?_
                    refine G.goto 47 dX11_share_100 (by decide) ?_
                    refine G.sub (lv' := [(0, .ref a0), (1, .int a1), (4, .int u7), (5, .int (s8.1 + v19)), (6, .int (s8.2.1 + (1 : Int32)))]) [2, 3, 4, 1, 0] rfl ?_
                    have h := leafL' h K8
                    exact h
            · intro j20 Jj20 h
              refine G.icmp_ne 38 dX11_share_30 (by decide) h (fun c21 h => ?_) (fun c21 h => ?_)
              · refine G.bipush (10 : Int32) dX11_share_33 kb_10 ?_
                refine G.goto 39 dX11_share_35 (by decide) ?_
                refine G.sub (lv' := [(0, .ref a0), (1, .int a1)]) [0, 1] rfl ?_
                exact Jj20 _ h
              · refine G.iload_n dX11_share_38 rfl rfl ?_
                refine G.sub (lv' := [(0, .ref a0), (1, .int a1)]) [0, 1] rfl ?_
                exact Jj20 _ h
          · refine G.iconst (-1 : Int32) dX11_share_26 ki_m1 ?_
            exact G.iretW dX11_share_27 rfl (rfl) h
-- OnlyUpward$Rule.gain(LOnlyUpward$World;IIII)I
set_option maxRecDepth 100000 in
set_option maxHeartbeats 4000000 in
def F_X6_gain (n : Nat) (M : AM) (a0 : Nat) (a1 : Nat) (a2 : Int32) (a3 : Int32) (a4 : Int32) (a5 : Int32) : Option Int32 :=
  (gR 6 0 M a0).bind fun v1 => (rcv 3 M v1 (F_X3_has n M v1 a2 a3 a5)).bind fun v2 => if v2 = 0 then some (0 : Int32) else (iter (fun (s4 : Int32 × Int32) => (gR 10 0 M a1).bind fun v5 => (rdI M v5 (6 : Int32)).bind fun v6 => if v6 ≤ s4.2 then some (.inr s4.1) else (gR 10 6 M a1).bind fun v8 => (rdI M v8 s4.2).bind fun v9 => (gR 10 7 M a1).bind fun v10 => (rdI M v10 s4.2).bind fun v11 => jn (fun (u12 : Int32) => jn (fun (u13 : Int32) => some (.inl (u13, (s4.2 + (1 : Int32))))) fun j14 => if u12 = 0 then j14 s4.1 else (F_X11_hasBit n M a4 v9).bind fun v16 => if v16 = 0 then j14 s4.1 else (gR 6 0 M a0).bind fun v18 => (rcv 3 M v18 (F_X3_has n M v18 v9 a3 (a5 + (1 : Int32)))).bind fun v19 => if v19 = 0 then (gR 10 3 M a1).bind fun v21 => (rdI M v21 a3).bind fun v22 => j14 (s4.1 + v22) else j14 s4.1) fun j23 => jn (j23 (0 : Int32)) fun j24 => if v11 = a3 then (gR 10 8 M a1).bind fun v26 => (rdI M v26 s4.2).bind fun v27 => if v27 ≤ a5 then j24 else j23 (1 : Int32) else j24) n ((0 : Int32), (0 : Int32))).bind fun (e4 : Int32) => some e4
set_option maxRecDepth 100000 in
set_option maxHeartbeats 4000000 in
theorem C_X6_gain {n : Nat} {M : AM} {a0 : Nat} {a1 : Nat} {a2 : Int32} {a3 : Int32} {a4 : Int32} {a5 : Int32} {o : Int32} (h : F_X6_gain n M a0 a1 a2 a3 a4 a5 = some o) : Cn yX6_gain cX6_gain 10 (some .int) 2 [.ref a0, .ref a1, .int a2, .int a3, .int a4, .int a5] M (some (.int o)) M := by
  unfold F_X6_gain at h
  refine Cn.of rfl (Nat.le_of_ble_eq_true rfl) ?_
  show G yX6_gain cX6_gain 10 (some .int) 2 0 [(0, .ref a0), (1, .ref a1), (2, .int a2), (3, .int a3), (4, .int a4), (5, .int a5)] [] M (some (.int o)) M
  refine G.aload_n dX6_gain_0 rfl rfl ?_
  refine G.getR dX6_gain_1 fkX6_12 fr6_0 h (fun v1 h => ?_)
  refine G.iload_n dX6_gain_4 rfl rfl ?_
  refine G.iload_n dX6_gain_5 rfl rfl ?_
  refine G.iload dX6_gain_6 rfl ?_
  refine G.callVi (ci := 3) [.int a2, .int a3, .int a5] [] dX6_gain_8 lkX6_73 okX3_has rfl (fun v hv => C_X3_has hv) (Nat.le_of_ble_eq_true rfl) rfl rfl (Nat.le_of_ble_eq_true rfl) h (fun v2 h => ?_)
  refine G.if_ne 16 dX6_gain_11 (by decide) h (fun c3 h => ?_) (fun c3 h => ?_)
  · refine G.iconst (0 : Int32) dX6_gain_14 ki_0 ?_
    exact G.iret dX6_gain_15 rfl (rfl) h
  · refine G.iconst (0 : Int32) dX6_gain_16 ki_0 ?_
    refine G.istore (lv' := [(6, .int (0 : Int32)), (0, .ref a0), (1, .ref a1), (2, .int a2), (3, .int a3), (4, .int a4), (5, .int a5)]) dX6_gain_17 (Nat.le_of_ble_eq_true rfl) rfl ?_
    refine G.iconst (0 : Int32) dX6_gain_19 ki_0 ?_
    refine G.istore (lv' := [(7, .int (0 : Int32)), (6, .int (0 : Int32)), (0, .ref a0), (1, .ref a1), (2, .int a2), (3, .int a3), (4, .int a4), (5, .int a5)]) dX6_gain_20 (Nat.le_of_ble_eq_true rfl) rfl ?_
    refine G.sub (lv' := [(0, .ref a0), (1, .ref a1), (3, .int a3), (4, .int a4), (5, .int a5), (6, .int (0 : Int32)), (7, .int (0 : Int32))]) [2, 3, 5, 6, 7, 1, 0] rfl ?_
    refine loopE (fun (s4 : Int32 × Int32) => G yX6_gain cX6_gain 10 (some .int) 2 22 [(0, .ref a0), (1, .ref a1), (3, .int a3), (4, .int a4), (5, .int a5), (6, .int s4.1), (7, .int s4.2)] [] M (some (.int o)) M) (fun (e4 : Int32) => G yX6_gain cX6_gain 10 (some .int) 2 122 [(6, .int e4)] [] M (some (.int o)) M) h ?_ ?_
    · intro e4 h
      show G yX6_gain cX6_gain 10 (some .int) 2 122 [(6, .int e4)] [] M (some (.int o)) M
      refine G.iload dX6_gain_122 rfl ?_
      exact G.iret dX6_gain_124 rfl (rfl) h
    · intro s4 x4 h K4
      show G yX6_gain cX6_gain 10 (some .int) 2 22 [(0, .ref a0), (1, .ref a1), (3, .int a3), (4, .int a4), (5, .int a5), (6, .int s4.1), (7, .int s4.2)] [] M (some (.int o)) M
      refine G.iload dX6_gain_22 rfl ?_
      refine G.aload_n dX6_gain_24 rfl rfl ?_
      refine G.getR dX6_gain_25 fkX6_33 fr10_0 h (fun v5 h => ?_)
      refine G.bipush (6 : Int32) dX6_gain_28 kb_6 ?_
      refine G.iald dX6_gain_30 h (fun v6 h => ?_)
      refine G.icmp_ge 122 dX6_gain_31 (by decide) h (fun c7 h => ?_) (fun c7 h => ?_)
      · refine G.sub (lv' := [(6, .int s4.1)]) [5] rfl ?_
        have h := leafR' h K4
        exact h
      · refine G.aload_n dX6_gain_34 rfl rfl ?_
        refine G.getR dX6_gain_35 fkX6_77 fr10_6 h (fun v8 h => ?_)
        refine G.iload dX6_gain_38 rfl ?_
        refine G.iald dX6_gain_40 h (fun v9 h => ?_)
        refine G.istore (lv' := [(8, .int v9), (0, .ref a0), (1, .ref a1), (3, .int a3), (4, .int a4), (5, .int a5), (6, .int s4.1), (7, .int s4.2)]) dX6_gain_41 (Nat.le_of_ble_eq_true rfl) rfl ?_
        refine G.aload_n dX6_gain_43 rfl rfl ?_
        refine G.getR dX6_gain_44 fkX6_80 fr10_7 h (fun v10 h => ?_)
        refine G.iload dX6_gain_47 rfl ?_
        refine G.iald dX6_gain_49 h (fun v11 h => ?_)
        refine G.iload_n dX6_gain_50 rfl rfl ?_
        refine jn_elim (fun j23 => ∀ (u12 : Int32), j23 u12 = some x4 → G yX6_gain cX6_gain 10 (some .int) 2 71 [(0, .ref a0), (1, .ref a1), (3, .int a3), (4, .int a4), (5, .int a5), (6, .int s4.1), (7, .int s4.2), (8, .int v9)] [.int u12] M (some (.int o)) M) h ?_ ?_
        · intro u12 h
          refine G.istore (lv' := [(9, .int u12), (0, .ref a0), (1, .ref a1), (3, .int a3), (4, .int a4), (5, .int a5), (6, .int s4.1), (7, .int s4.2), (8, .int v9)]) dX6_gain_71 (Nat.le_of_ble_eq_true rfl) rfl ?_
          refine G.iload dX6_gain_73 rfl ?_
          refine jn_elim (fun j14 => ∀ (u13 : Int32), j14 u13 = some x4 → G yX6_gain cX6_gain 10 (some .int) 2 116 [(0, .ref a0), (1, .ref a1), (3, .int a3), (4, .int a4), (5, .int a5), (6, .int u13), (7, .int s4.2)] [] M (some (.int o)) M) h ?_ ?_
          · intro u13 h
            refine G.iinc s4.2 (w := (s4.2 + (1 : Int32))) (lv' := [(7, .int (s4.2 + (1 : Int32))), (0, .ref a0), (1, .ref a1), (3, .int a3), (4, .int a4), (5, .int a5), (6, .int u13)]) dX6_gain_116 rfl rfl (Nat.le_of_ble_eq_true rfl) rfl ?_
            refine G.goto 22 dX6_gain_119 (by decide) ?_
            refine G.sub (lv' := [(0, .ref a0), (1, .ref a1), (3, .int a3), (4, .int a4), (5, .int a5), (6, .int u13), (7, .int (s4.2 + (1 : Int32)))]) [1, 2, 3, 4, 5, 6, 0] rfl ?_
            have h := leafL' h K4
            exact h
          · intro j14 Jj14 h
            refine G.if_eq 116 dX6_gain_75 (by decide) h (fun c15 h => ?_) (fun c15 h => ?_)
            · refine G.sub (lv' := [(0, .ref a0), (1, .ref a1), (3, .int a3), (4, .int a4), (5, .int a5), (6, .int s4.1), (7, .int s4.2)]) [1, 2, 3, 4, 5, 6, 7] rfl ?_
              exact Jj14 _ h
            · refine G.iload dX6_gain_78 rfl ?_
              refine G.iload dX6_gain_80 rfl ?_
              refine G.callSi [.int a4, .int v9] [] dX6_gain_82 lkX6_86 okX11_hasBit (fun v hv => C_X11_hasBit hv) (Nat.le_of_ble_eq_true rfl) rfl rfl (Nat.le_of_ble_eq_true rfl) h (fun v16 h => ?_)
              refine G.if_eq 116 dX6_gain_85 (by decide) h (fun c17 h => ?_) (fun c17 h => ?_)
              · refine G.sub (lv' := [(0, .ref a0), (1, .ref a1), (3, .int a3), (4, .int a4), (5, .int a5), (6, .int s4.1), (7, .int s4.2)]) [1, 2, 3, 4, 5, 6, 7] rfl ?_
                exact Jj14 _ h
              · refine G.aload_n dX6_gain_88 rfl rfl ?_
                refine G.getR dX6_gain_89 fkX6_12 fr6_0 h (fun v18 h => ?_)
                refine G.iload dX6_gain_92 rfl ?_
                refine G.iload_n dX6_gain_94 rfl rfl ?_
                refine G.iload dX6_gain_95 rfl ?_
                refine G.iconst (1 : Int32) dX6_gain_97 ki_1 ?_
                refine G.iadd dX6_gain_98 ?_
                refine G.callVi (ci := 3) [.int v9, .int a3, .int (a5 + (1 : Int32))] [] dX6_gain_99 lkX6_73 okX3_has rfl (fun v hv => C_X3_has hv) (Nat.le_of_ble_eq_true rfl) rfl rfl (Nat.le_of_ble_eq_true rfl) h (fun v19 h => ?_)
                refine G.if_ne 116 dX6_gain_102 (by decide) h (fun c20 h => ?_) (fun c20 h => ?_)
                · refine G.iload dX6_gain_105 rfl ?_
                  refine G.aload_n dX6_gain_107 rfl rfl ?_
                  refine G.getR dX6_gain_108 fkX6_90 fr10_3 h (fun v21 h => ?_)
                  refine G.iload_n dX6_gain_111 rfl rfl ?_
                  refine G.iald dX6_gain_112 h (fun v22 h => ?_)
                  refine G.iadd dX6_gain_113 ?_
                  refine G.istore (lv' := [(6, .int (s4.1 + v22)), (9, .int u12), (0, .ref a0), (1, .ref a1), (3, .int a3), (4, .int a4), (5, .int a5), (7, .int s4.2), (8, .int v9)]) dX6_gain_114 (Nat.le_of_ble_eq_true rfl) rfl ?_
                  refine G.sub (lv' := [(0, .ref a0), (1, .ref a1), (3, .int a3), (4, .int a4), (5, .int a5), (6, .int (s4.1 + v22)), (7, .int s4.2)]) [2, 3, 4, 5, 6, 0, 7] rfl ?_
                  exact Jj14 _ h
                · refine G.sub (lv' := [(0, .ref a0), (1, .ref a1), (3, .int a3), (4, .int a4), (5, .int a5), (6, .int s4.1), (7, .int s4.2)]) [1, 2, 3, 4, 5, 6, 7] rfl ?_
                  exact Jj14 _ h
        · intro j23 Jj23 h
          refine jn_elim (fun j24 => j24 = some x4 → G yX6_gain cX6_gain 10 (some .int) 2 70 [(0, .ref a0), (1, .ref a1), (3, .int a3), (4, .int a4), (5, .int a5), (6, .int s4.1), (7, .int s4.2), (8, .int v9)] [] M (some (.int o)) M) h ?_ ?_
          · intro h
            refine G.iconst (0 : Int32) dX6_gain_70 ki_0 ?_
            refine G.sub (lv' := [(0, .ref a0), (1, .ref a1), (3, .int a3), (4, .int a4), (5, .int a5), (6, .int s4.1), (7, .int s4.2), (8, .int v9)]) [0, 1, 2, 3, 4, 5, 6, 7] rfl ?_
            exact Jj23 _ h
          · intro j24 Jj24 h
            refine G.icmp_ne 70 dX6_gain_51 (by decide) h (fun c25 h => ?_) (fun c25 h => ?_)
            · refine G.aload_n dX6_gain_54 rfl rfl ?_
              refine G.getR dX6_gain_55 fkX6_83 fr10_8 h (fun v26 h => ?_)
              refine G.iload dX6_gain_58 rfl ?_
              refine G.iald dX6_gain_60 h (fun v27 h => ?_)
              refine G.iload dX6_gain_61 rfl ?_
              refine G.icmp_le 70 dX6_gain_63 (by decide) h (fun c28 h => ?_) (fun c28 h => ?_)
              · refine G.sub (lv' := [(0, .ref a0), (1, .ref a1), (3, .int a3), (4, .int a4), (5, .int a5), (6, .int s4.1), (7, .int s4.2), (8, .int v9)]) [1, 2, 3, 4, 5, 6, 7, 0] rfl ?_
                exact Jj24  h
              · refine G.iconst (1 : Int32) dX6_gain_66 ki_1 ?_
                refine G.goto 71 dX6_gain_67 (by decide) ?_
                refine G.sub (lv' := [(0, .ref a0), (1, .ref a1), (3, .int a3), (4, .int a4), (5, .int a5), (6, .int s4.1), (7, .int s4.2), (8, .int v9)]) [1, 2, 3, 4, 5, 6, 7, 0] rfl ?_
                exact Jj23 _ h
            · refine G.sub (lv' := [(0, .ref a0), (1, .ref a1), (3, .int a3), (4, .int a4), (5, .int a5), (6, .int s4.1), (7, .int s4.2), (8, .int v9)]) [1, 2, 3, 4, 5, 6, 7, 0] rfl ?_
              exact Jj24  h
-- OnlyUpward$Rule.goOne(LOnlyUpward$World;II)V
set_option maxRecDepth 100000 in
set_option maxHeartbeats 4000000 in
def F_X6_goOne (n : Nat) (M : AM) (a0 : Nat) (a1 : Nat) (a2 : Int32) (a3 : Int32) : Option AM :=
  (rcv 10 M a1 (F_X10_placeOf n M a1 a2 a3)).bind fun v1 => (rcv 10 M a1 (F_X10_sayTo n M a1 a2 a3)).bind fun v2 => jn (fun (u3 : Int32) => (iter (fun (s4 : Int32 × Int32 × Int32 × Int32 × Int32) => (gR 10 0 M a1).bind fun v5 => (rdI M v5 (2 : Int32)).bind fun v6 => if v6 ≤ s4.2.2.2.2 then some (.inr (s4.1, s4.2.1, s4.2.2.1, s4.2.2.2.1)) else (rcv 6 M a0 (F_X6_gain n M a0 a1 a2 s4.2.2.2.2 u3 a3)).bind fun v8 => jn (fun (u9 : Int32) (u10 : Int32) (u11 : Int32) (u12 : Int32) => some (.inl (u9, u10, u11, u12, (s4.2.2.2.2 + (1 : Int32))))) fun j13 => if v8 ≤ s4.1 then j13 s4.1 s4.2.1 s4.2.2.1 s4.2.2.2.1 else j13 v8 u3 s4.2.2.2.2 (1 : Int32)) n ((0 : Int32), (0 : Int32), (0 : Int32), (0 : Int32), (0 : Int32))).bind fun (e4 : Int32 × Int32 × Int32 × Int32) => (iter (fun (s15 : Int32 × Int32 × Int32 × Int32 × Int32) => (gR 10 0 M a1).bind fun v16 => (rdI M v16 (7 : Int32)).bind fun v17 => if v17 ≤ s15.2.2.2.2 then some (.inr (s15.1, s15.2.1, s15.2.2.1, s15.2.2.2.1)) else (gR 10 9 M a1).bind fun v19 => (rdI M v19 s15.2.2.2.2).bind fun v20 => (rcv 10 M a1 (F_X10_standers n M a1 v1 a3)).bind fun v21 => (rcv 6 M a0 (F_X6_gain n M a0 a1 a2 v20 v21 a3)).bind fun v22 => jn (fun (u23 : Int32) (u24 : Int32) (u25 : Int32) (u26 : Int32) => some (.inl (u23, u24, u25, u26, (s15.2.2.2.2 + (1 : Int32))))) fun j27 => if v22 ≤ s15.1 then j27 s15.1 s15.2.1 s15.2.2.1 s15.2.2.2.1 else (rcv 10 M a1 (F_X10_standers n M a1 v1 a3)).bind fun v29 => (gR 10 9 M a1).bind fun v30 => (rdI M v30 s15.2.2.2.2).bind fun v31 => (gR 10 10 M a1).bind fun v32 => (rdI M v32 s15.2.2.2.2).bind fun v33 => j27 v22 v29 v31 v33) n (e4.1, e4.2.1, e4.2.2.1, e4.2.2.2, (0 : Int32))).bind fun (e15 : Int32 × Int32 × Int32 × Int32) => if e15.1 ≤ 0 then some M else (gR 6 0 M a0).bind fun v35 => (rcv 3 M v35 (F_X3_learn n M v35 e15.2.1 e15.2.2.1 (a3 + (1 : Int32)))).bind fun M37 => (gI 6 1 M37 a0).bind fun v38 => (pI 6 1 M37 a0 (v38 + e15.2.2.2)).bind fun M39 => (gI 6 2 M39 a0).bind fun v40 => (pI 6 2 M39 a0 (v40 + (1 : Int32))).bind fun M41 => some M41) fun j42 => if v2 = 0 then j42 (0 : Int32) else (rcv 10 M a1 (F_X10_hearers n M a1 v1 a3)).bind fun v44 => j42 v44
set_option maxRecDepth 100000 in
set_option maxHeartbeats 4000000 in
theorem C_X6_goOne {n : Nat} {M : AM} {a0 : Nat} {a1 : Nat} {a2 : Int32} {a3 : Int32} {o : AM} (h : F_X6_goOne n M a0 a1 a2 a3 = some o) : Cn yX6_goOne cX6_goOne 12 none 3 [.ref a0, .ref a1, .int a2, .int a3] M none o := by
  unfold F_X6_goOne at h
  refine Cn.of rfl (Nat.le_of_ble_eq_true rfl) ?_
  show G yX6_goOne cX6_goOne 12 none 3 0 [(0, .ref a0), (1, .ref a1), (2, .int a2), (3, .int a3)] [] M none o
  refine G.aload_n dX6_goOne_0 rfl rfl ?_
  refine G.iload_n dX6_goOne_1 rfl rfl ?_
  refine G.iload_n dX6_goOne_2 rfl rfl ?_
  refine G.callVi (ci := 10) [.int a2, .int a3] [] dX6_goOne_3 lkX6_47 okX10_placeOf rfl (fun v hv => C_X10_placeOf hv) (Nat.le_of_ble_eq_true rfl) rfl rfl (Nat.le_of_ble_eq_true rfl) h (fun v1 h => ?_)
  refine G.istore (lv' := [(4, .int v1), (0, .ref a0), (1, .ref a1), (2, .int a2), (3, .int a3)]) dX6_goOne_6 (Nat.le_of_ble_eq_true rfl) rfl ?_
  refine G.aload_n dX6_goOne_8 rfl rfl ?_
  refine G.iload_n dX6_goOne_9 rfl rfl ?_
  refine G.iload_n dX6_goOne_10 rfl rfl ?_
  refine G.callVi (ci := 10) [.int a2, .int a3] [] dX6_goOne_11 lkX6_50 okX10_sayTo rfl (fun v hv => C_X10_sayTo hv) (Nat.le_of_ble_eq_true rfl) rfl rfl (Nat.le_of_ble_eq_true rfl) h (fun v2 h => ?_)
  refine jn_elim (fun j42 => ∀ (u3 : Int32), j42 u3 = some o → G yX6_goOne cX6_goOne 12 none 3 28 [(0, .ref a0), (1, .ref a1), (2, .int a2), (3, .int a3), (4, .int v1)] [.int u3] M none o) h ?_ ?_
  · intro u3 h
    refine G.istore (lv' := [(5, .int u3), (0, .ref a0), (1, .ref a1), (2, .int a2), (3, .int a3), (4, .int v1)]) dX6_goOne_28 (Nat.le_of_ble_eq_true rfl) rfl ?_
    refine G.iconst (0 : Int32) dX6_goOne_30 ki_0 ?_
    refine G.istore (lv' := [(6, .int (0 : Int32)), (5, .int u3), (0, .ref a0), (1, .ref a1), (2, .int a2), (3, .int a3), (4, .int v1)]) dX6_goOne_31 (Nat.le_of_ble_eq_true rfl) rfl ?_
    refine G.iconst (0 : Int32) dX6_goOne_33 ki_0 ?_
    refine G.istore (lv' := [(7, .int (0 : Int32)), (6, .int (0 : Int32)), (5, .int u3), (0, .ref a0), (1, .ref a1), (2, .int a2), (3, .int a3), (4, .int v1)]) dX6_goOne_34 (Nat.le_of_ble_eq_true rfl) rfl ?_
    refine G.iconst (0 : Int32) dX6_goOne_36 ki_0 ?_
    refine G.istore (lv' := [(8, .int (0 : Int32)), (7, .int (0 : Int32)), (6, .int (0 : Int32)), (5, .int u3), (0, .ref a0), (1, .ref a1), (2, .int a2), (3, .int a3), (4, .int v1)]) dX6_goOne_37 (Nat.le_of_ble_eq_true rfl) rfl ?_
    refine G.iconst (0 : Int32) dX6_goOne_39 ki_0 ?_
    refine G.istore (lv' := [(9, .int (0 : Int32)), (8, .int (0 : Int32)), (7, .int (0 : Int32)), (6, .int (0 : Int32)), (5, .int u3), (0, .ref a0), (1, .ref a1), (2, .int a2), (3, .int a3), (4, .int v1)]) dX6_goOne_40 (Nat.le_of_ble_eq_true rfl) rfl ?_
    refine G.iconst (0 : Int32) dX6_goOne_42 ki_0 ?_
    refine G.istore (lv' := [(10, .int (0 : Int32)), (9, .int (0 : Int32)), (8, .int (0 : Int32)), (7, .int (0 : Int32)), (6, .int (0 : Int32)), (5, .int u3), (0, .ref a0), (1, .ref a1), (2, .int a2), (3, .int a3), (4, .int v1)]) dX6_goOne_43 (Nat.le_of_ble_eq_true rfl) rfl ?_
    refine G.sub (lv' := [(0, .ref a0), (1, .ref a1), (2, .int a2), (3, .int a3), (4, .int v1), (5, .int u3), (6, .int (0 : Int32)), (7, .int (0 : Int32)), (8, .int (0 : Int32)), (9, .int (0 : Int32)), (10, .int (0 : Int32))]) [6, 7, 8, 9, 10, 5, 4, 3, 2, 1, 0] rfl ?_
    refine loopE (fun (s4 : Int32 × Int32 × Int32 × Int32 × Int32) => G yX6_goOne cX6_goOne 12 none 3 45 [(0, .ref a0), (1, .ref a1), (2, .int a2), (3, .int a3), (4, .int v1), (5, .int u3), (6, .int s4.1), (7, .int s4.2.1), (8, .int s4.2.2.1), (9, .int s4.2.2.2.1), (10, .int s4.2.2.2.2)] [] M none o) (fun (e4 : Int32 × Int32 × Int32 × Int32) => G yX6_goOne cX6_goOne 12 none 3 97 [(0, .ref a0), (1, .ref a1), (2, .int a2), (3, .int a3), (4, .int v1), (6, .int e4.1), (7, .int e4.2.1), (8, .int e4.2.2.1), (9, .int e4.2.2.2)] [] M none o) h ?_ ?_
    · intro e4 h
      show G yX6_goOne cX6_goOne 12 none 3 97 [(0, .ref a0), (1, .ref a1), (2, .int a2), (3, .int a3), (4, .int v1), (6, .int e4.1), (7, .int e4.2.1), (8, .int e4.2.2.1), (9, .int e4.2.2.2)] [] M none o
      refine G.iconst (0 : Int32) dX6_goOne_97 ki_0 ?_
      refine G.istore (lv' := [(10, .int (0 : Int32)), (0, .ref a0), (1, .ref a1), (2, .int a2), (3, .int a3), (4, .int v1), (6, .int e4.1), (7, .int e4.2.1), (8, .int e4.2.2.1), (9, .int e4.2.2.2)]) dX6_goOne_98 (Nat.le_of_ble_eq_true rfl) rfl ?_
      refine G.sub (lv' := [(0, .ref a0), (1, .ref a1), (2, .int a2), (3, .int a3), (4, .int v1), (6, .int e4.1), (7, .int e4.2.1), (8, .int e4.2.2.1), (9, .int e4.2.2.2), (10, .int (0 : Int32))]) [1, 2, 3, 4, 5, 6, 7, 8, 9, 0] rfl ?_
      refine loopE (fun (s15 : Int32 × Int32 × Int32 × Int32 × Int32) => G yX6_goOne cX6_goOne 12 none 3 100 [(0, .ref a0), (1, .ref a1), (2, .int a2), (3, .int a3), (4, .int v1), (6, .int s15.1), (7, .int s15.2.1), (8, .int s15.2.2.1), (9, .int s15.2.2.2.1), (10, .int s15.2.2.2.2)] [] M none o) (fun (e15 : Int32 × Int32 × Int32 × Int32) => G yX6_goOne cX6_goOne 12 none 3 179 [(0, .ref a0), (3, .int a3), (6, .int e15.1), (7, .int e15.2.1), (8, .int e15.2.2.1), (9, .int e15.2.2.2)] [] M none o) h ?_ ?_
      · intro e15 h
        show G yX6_goOne cX6_goOne 12 none 3 179 [(0, .ref a0), (3, .int a3), (6, .int e15.1), (7, .int e15.2.1), (8, .int e15.2.2.1), (9, .int e15.2.2.2)] [] M none o
        refine G.iload dX6_goOne_179 rfl ?_
        refine G.if_le 219 dX6_goOne_181 (by decide) h (fun c34 h => ?_) (fun c34 h => ?_)
        · exact G.vretW dX6_goOne_219 rfl h
        · refine G.aload_n dX6_goOne_184 rfl rfl ?_
          refine G.getR dX6_goOne_185 fkX6_12 fr6_0 h (fun v35 h => ?_)
          refine G.iload dX6_goOne_188 rfl ?_
          refine G.iload dX6_goOne_190 rfl ?_
          refine G.iload_n dX6_goOne_192 rfl rfl ?_
          refine G.iconst (1 : Int32) dX6_goOne_193 ki_1 ?_
          refine G.iadd dX6_goOne_194 ?_
          refine G.callVv (ci := 3) [.int e15.2.1, .int e15.2.2.1, .int (a3 + (1 : Int32))] [] dX6_goOne_195 lkX6_69 okX3_learn rfl (fun v hv => C_X3_learn hv) (Nat.le_of_ble_eq_true rfl) rfl rfl (Nat.le_of_ble_eq_true rfl) h (fun M37 h => ?_)
          refine G.aload_n dX6_goOne_198 rfl rfl ?_
          refine G.dup dX6_goOne_199 rfl ?_
          refine G.getI dX6_goOne_200 fkX6_18 fr6_1 h (fun v38 h => ?_)
          refine G.iload dX6_goOne_203 rfl ?_
          refine G.iadd dX6_goOne_205 ?_
          refine G.putI dX6_goOne_206 fkX6_18 nf6_1 ft6_1 h (fun M39 h => ?_)
          refine G.aload_n dX6_goOne_209 rfl rfl ?_
          refine G.dup dX6_goOne_210 rfl ?_
          refine G.getI dX6_goOne_211 fkX6_22 fr6_2 h (fun v40 h => ?_)
          refine G.iconst (1 : Int32) dX6_goOne_214 ki_1 ?_
          refine G.iadd dX6_goOne_215 ?_
          refine G.putI dX6_goOne_216 fkX6_22 nf6_2 ft6_2 h (fun M41 h => ?_)
          exact G.vretW dX6_goOne_219 rfl h
      · intro s15 x15 h K15
        show G yX6_goOne cX6_goOne 12 none 3 100 [(0, .ref a0), (1, .ref a1), (2, .int a2), (3, .int a3), (4, .int v1), (6, .int s15.1), (7, .int s15.2.1), (8, .int s15.2.2.1), (9, .int s15.2.2.2.1), (10, .int s15.2.2.2.2)] [] M none o
        refine G.iload dX6_goOne_100 rfl ?_
        refine G.aload_n dX6_goOne_102 rfl rfl ?_
        refine G.getR dX6_goOne_103 fkX6_33 fr10_0 h (fun v16 h => ?_)
        refine G.bipush (7 : Int32) dX6_goOne_106 kb_7 ?_
        refine G.iald dX6_goOne_108 h (fun v17 h => ?_)
        refine G.icmp_ge 179 dX6_goOne_109 (by decide) h (fun c18 h => ?_) (fun c18 h => ?_)
        · refine G.sub (lv' := [(0, .ref a0), (3, .int a3), (6, .int s15.1), (7, .int s15.2.1), (8, .int s15.2.2.1), (9, .int s15.2.2.2.1)]) [0, 3, 5, 6, 7, 8] rfl ?_
          have h := leafR' h K15
          exact h
        · refine G.aload_n dX6_goOne_112 rfl rfl ?_
          refine G.aload_n dX6_goOne_113 rfl rfl ?_
          refine G.iload_n dX6_goOne_114 rfl rfl ?_
          refine G.aload_n dX6_goOne_115 rfl rfl ?_
          refine G.getR dX6_goOne_116 fkX6_60 fr10_9 h (fun v19 h => ?_)
          refine G.iload dX6_goOne_119 rfl ?_
          refine G.iald dX6_goOne_121 h (fun v20 h => ?_)
          refine G.aload_n dX6_goOne_122 rfl rfl ?_
          refine G.iload dX6_goOne_123 rfl ?_
          refine G.iload_n dX6_goOne_125 rfl rfl ?_
          refine G.callVi (ci := 10) [.int v1, .int a3] [.int v20, .int a2, .ref a1, .ref a0] dX6_goOne_126 lkX6_63 okX10_standers rfl (fun v hv => C_X10_standers hv) (Nat.le_of_ble_eq_true rfl) rfl rfl (Nat.le_of_ble_eq_true rfl) h (fun v21 h => ?_)
          refine G.iload_n dX6_goOne_129 rfl rfl ?_
          refine G.callVi (ci := 6) [.ref a1, .int a2, .int v20, .int v21, .int a3] [] dX6_goOne_130 lkX6_56 okX6_gain rfl (fun v hv => C_X6_gain hv) (Nat.le_of_ble_eq_true rfl) rfl rfl (Nat.le_of_ble_eq_true rfl) h (fun v22 h => ?_)
          refine G.istore (lv' := [(11, .int v22), (0, .ref a0), (1, .ref a1), (2, .int a2), (3, .int a3), (4, .int v1), (6, .int s15.1), (7, .int s15.2.1), (8, .int s15.2.2.1), (9, .int s15.2.2.2.1), (10, .int s15.2.2.2.2)]) dX6_goOne_133 (Nat.le_of_ble_eq_true rfl) rfl ?_
          refine G.iload dX6_goOne_135 rfl ?_
          refine G.iload dX6_goOne_137 rfl ?_
          refine jn_elim (fun j27 => ∀ (u23 : Int32) (u24 : Int32) (u25 : Int32) (u26 : Int32), j27 u23 u24 u25 u26 = some x15 → G yX6_goOne cX6_goOne 12 none 3 173 [(0, .ref a0), (1, .ref a1), (2, .int a2), (3, .int a3), (4, .int v1), (6, .int u23), (7, .int u24), (8, .int u25), (9, .int u26), (10, .int s15.2.2.2.2)] [] M none o) h ?_ ?_
          · intro u23 u24 u25 u26 h
            refine G.iinc s15.2.2.2.2 (w := (s15.2.2.2.2 + (1 : Int32))) (lv' := [(10, .int (s15.2.2.2.2 + (1 : Int32))), (0, .ref a0), (1, .ref a1), (2, .int a2), (3, .int a3), (4, .int v1), (6, .int u23), (7, .int u24), (8, .int u25), (9, .int u26)]) dX6_goOne_173 rfl rfl (Nat.le_of_ble_eq_true rfl) rfl ?_
            refine G.goto 100 dX6_goOne_176 (by decide) ?_
            refine G.sub (lv' := [(0, .ref a0), (1, .ref a1), (2, .int a2), (3, .int a3), (4, .int v1), (6, .int u23), (7, .int u24), (8, .int u25), (9, .int u26), (10, .int (s15.2.2.2.2 + (1 : Int32)))]) [1, 2, 3, 4, 5, 6, 7, 8, 9, 0] rfl ?_
            have h := leafL' h K15
            exact h
          · intro j27 Jj27 h
            refine G.icmp_le 173 dX6_goOne_139 (by decide) h (fun c28 h => ?_) (fun c28 h => ?_)
            · refine G.sub (lv' := [(0, .ref a0), (1, .ref a1), (2, .int a2), (3, .int a3), (4, .int v1), (6, .int s15.1), (7, .int s15.2.1), (8, .int s15.2.2.1), (9, .int s15.2.2.2.1), (10, .int s15.2.2.2.2)]) [1, 2, 3, 4, 5, 6, 7, 8, 9, 10] rfl ?_
              exact Jj27 _ _ _ _ h
            · refine G.iload dX6_goOne_142 rfl ?_
              refine G.istore (lv' := [(6, .int v22), (11, .int v22), (0, .ref a0), (1, .ref a1), (2, .int a2), (3, .int a3), (4, .int v1), (7, .int s15.2.1), (8, .int s15.2.2.1), (9, .int s15.2.2.2.1), (10, .int s15.2.2.2.2)]) dX6_goOne_144 (Nat.le_of_ble_eq_true rfl) rfl ?_
              refine G.aload_n dX6_goOne_146 rfl rfl ?_
              refine G.iload dX6_goOne_147 rfl ?_
              refine G.iload_n dX6_goOne_149 rfl rfl ?_
              refine G.callVi (ci := 10) [.int v1, .int a3] [] dX6_goOne_150 lkX6_63 okX10_standers rfl (fun v hv => C_X10_standers hv) (Nat.le_of_ble_eq_true rfl) rfl rfl (Nat.le_of_ble_eq_true rfl) h (fun v29 h => ?_)
              refine G.istore (lv' := [(7, .int v29), (6, .int v22), (11, .int v22), (0, .ref a0), (1, .ref a1), (2, .int a2), (3, .int a3), (4, .int v1), (8, .int s15.2.2.1), (9, .int s15.2.2.2.1), (10, .int s15.2.2.2.2)]) dX6_goOne_153 (Nat.le_of_ble_eq_true rfl) rfl ?_
              refine G.aload_n dX6_goOne_155 rfl rfl ?_
              refine G.getR dX6_goOne_156 fkX6_60 fr10_9 h (fun v30 h => ?_)
              refine G.iload dX6_goOne_159 rfl ?_
              refine G.iald dX6_goOne_161 h (fun v31 h => ?_)
              refine G.istore (lv' := [(8, .int v31), (7, .int v29), (6, .int v22), (11, .int v22), (0, .ref a0), (1, .ref a1), (2, .int a2), (3, .int a3), (4, .int v1), (9, .int s15.2.2.2.1), (10, .int s15.2.2.2.2)]) dX6_goOne_162 (Nat.le_of_ble_eq_true rfl) rfl ?_
              refine G.aload_n dX6_goOne_164 rfl rfl ?_
              refine G.getR dX6_goOne_165 fkX6_66 fr10_10 h (fun v32 h => ?_)
              refine G.iload dX6_goOne_168 rfl ?_
              refine G.iald dX6_goOne_170 h (fun v33 h => ?_)
              refine G.istore (lv' := [(9, .int v33), (8, .int v31), (7, .int v29), (6, .int v22), (11, .int v22), (0, .ref a0), (1, .ref a1), (2, .int a2), (3, .int a3), (4, .int v1), (10, .int s15.2.2.2.2)]) dX6_goOne_171 (Nat.le_of_ble_eq_true rfl) rfl ?_
              refine G.sub (lv' := [(0, .ref a0), (1, .ref a1), (2, .int a2), (3, .int a3), (4, .int v1), (6, .int v22), (7, .int v29), (8, .int v31), (9, .int v33), (10, .int s15.2.2.2.2)]) [5, 6, 7, 8, 9, 3, 2, 1, 0, 10] rfl ?_
              exact Jj27 _ _ _ _ h
    · intro s4 x4 h K4
      show G yX6_goOne cX6_goOne 12 none 3 45 [(0, .ref a0), (1, .ref a1), (2, .int a2), (3, .int a3), (4, .int v1), (5, .int u3), (6, .int s4.1), (7, .int s4.2.1), (8, .int s4.2.2.1), (9, .int s4.2.2.2.1), (10, .int s4.2.2.2.2)] [] M none o
      refine G.iload dX6_goOne_45 rfl ?_
      refine G.aload_n dX6_goOne_47 rfl rfl ?_
      refine G.getR dX6_goOne_48 fkX6_33 fr10_0 h (fun v5 h => ?_)
      refine G.iconst (2 : Int32) dX6_goOne_51 ki_2 ?_
      refine G.iald dX6_goOne_52 h (fun v6 h => ?_)
      refine G.icmp_ge 97 dX6_goOne_53 (by decide) h (fun c7 h => ?_) (fun c7 h => ?_)
      · refine G.sub (lv' := [(0, .ref a0), (1, .ref a1), (2, .int a2), (3, .int a3), (4, .int v1), (6, .int s4.1), (7, .int s4.2.1), (8, .int s4.2.2.1), (9, .int s4.2.2.2.1)]) [0, 1, 2, 3, 4, 6, 7, 8, 9] rfl ?_
        have h := leafR' h K4
        exact h
      · refine G.aload_n dX6_goOne_56 rfl rfl ?_
        refine G.aload_n dX6_goOne_57 rfl rfl ?_
        refine G.iload_n dX6_goOne_58 rfl rfl ?_
        refine G.iload dX6_goOne_59 rfl ?_
        refine G.iload dX6_goOne_61 rfl ?_
        refine G.iload_n dX6_goOne_63 rfl rfl ?_
        refine G.callVi (ci := 6) [.ref a1, .int a2, .int s4.2.2.2.2, .int u3, .int a3] [] dX6_goOne_64 lkX6_56 okX6_gain rfl (fun v hv => C_X6_gain hv) (Nat.le_of_ble_eq_true rfl) rfl rfl (Nat.le_of_ble_eq_true rfl) h (fun v8 h => ?_)
        refine G.istore (lv' := [(11, .int v8), (0, .ref a0), (1, .ref a1), (2, .int a2), (3, .int a3), (4, .int v1), (5, .int u3), (6, .int s4.1), (7, .int s4.2.1), (8, .int s4.2.2.1), (9, .int s4.2.2.2.1), (10, .int s4.2.2.2.2)]) dX6_goOne_67 (Nat.le_of_ble_eq_true rfl) rfl ?_
        refine G.iload dX6_goOne_69 rfl ?_
        refine G.iload dX6_goOne_71 rfl ?_
        refine jn_elim (fun j13 => ∀ (u9 : Int32) (u10 : Int32) (u11 : Int32) (u12 : Int32), j13 u9 u10 u11 u12 = some x4 → G yX6_goOne cX6_goOne 12 none 3 91 [(0, .ref a0), (1, .ref a1), (2, .int a2), (3, .int a3), (4, .int v1), (5, .int u3), (6, .int u9), (7, .int u10), (8, .int u11), (9, .int u12), (10, .int s4.2.2.2.2)] [] M none o) h ?_ ?_
        · intro u9 u10 u11 u12 h
          refine G.iinc s4.2.2.2.2 (w := (s4.2.2.2.2 + (1 : Int32))) (lv' := [(10, .int (s4.2.2.2.2 + (1 : Int32))), (0, .ref a0), (1, .ref a1), (2, .int a2), (3, .int a3), (4, .int v1), (5, .int u3), (6, .int u9), (7, .int u10), (8, .int u11), (9, .int u12)]) dX6_goOne_91 rfl rfl (Nat.le_of_ble_eq_true rfl) rfl ?_
          refine G.goto 45 dX6_goOne_94 (by decide) ?_
          refine G.sub (lv' := [(0, .ref a0), (1, .ref a1), (2, .int a2), (3, .int a3), (4, .int v1), (5, .int u3), (6, .int u9), (7, .int u10), (8, .int u11), (9, .int u12), (10, .int (s4.2.2.2.2 + (1 : Int32)))]) [1, 2, 3, 4, 5, 6, 7, 8, 9, 10, 0] rfl ?_
          have h := leafL' h K4
          exact h
        · intro j13 Jj13 h
          refine G.icmp_le 91 dX6_goOne_73 (by decide) h (fun c14 h => ?_) (fun c14 h => ?_)
          · refine G.sub (lv' := [(0, .ref a0), (1, .ref a1), (2, .int a2), (3, .int a3), (4, .int v1), (5, .int u3), (6, .int s4.1), (7, .int s4.2.1), (8, .int s4.2.2.1), (9, .int s4.2.2.2.1), (10, .int s4.2.2.2.2)]) [1, 2, 3, 4, 5, 6, 7, 8, 9, 10, 11] rfl ?_
            exact Jj13 _ _ _ _ h
          · refine G.iload dX6_goOne_76 rfl ?_
            refine G.istore (lv' := [(6, .int v8), (11, .int v8), (0, .ref a0), (1, .ref a1), (2, .int a2), (3, .int a3), (4, .int v1), (5, .int u3), (7, .int s4.2.1), (8, .int s4.2.2.1), (9, .int s4.2.2.2.1), (10, .int s4.2.2.2.2)]) dX6_goOne_78 (Nat.le_of_ble_eq_true rfl) rfl ?_
            refine G.iload dX6_goOne_80 rfl ?_
            refine G.istore (lv' := [(7, .int u3), (6, .int v8), (11, .int v8), (0, .ref a0), (1, .ref a1), (2, .int a2), (3, .int a3), (4, .int v1), (5, .int u3), (8, .int s4.2.2.1), (9, .int s4.2.2.2.1), (10, .int s4.2.2.2.2)]) dX6_goOne_82 (Nat.le_of_ble_eq_true rfl) rfl ?_
            refine G.iload dX6_goOne_84 rfl ?_
            refine G.istore (lv' := [(8, .int s4.2.2.2.2), (7, .int u3), (6, .int v8), (11, .int v8), (0, .ref a0), (1, .ref a1), (2, .int a2), (3, .int a3), (4, .int v1), (5, .int u3), (9, .int s4.2.2.2.1), (10, .int s4.2.2.2.2)]) dX6_goOne_86 (Nat.le_of_ble_eq_true rfl) rfl ?_
            refine G.iconst (1 : Int32) dX6_goOne_88 ki_1 ?_
            refine G.istore (lv' := [(9, .int (1 : Int32)), (8, .int s4.2.2.2.2), (7, .int u3), (6, .int v8), (11, .int v8), (0, .ref a0), (1, .ref a1), (2, .int a2), (3, .int a3), (4, .int v1), (5, .int u3), (10, .int s4.2.2.2.2)]) dX6_goOne_89 (Nat.le_of_ble_eq_true rfl) rfl ?_
            refine G.sub (lv' := [(0, .ref a0), (1, .ref a1), (2, .int a2), (3, .int a3), (4, .int v1), (5, .int u3), (6, .int v8), (7, .int u3), (8, .int s4.2.2.2.2), (9, .int (1 : Int32)), (10, .int s4.2.2.2.2)]) [5, 6, 7, 8, 9, 10, 3, 2, 1, 0, 11] rfl ?_
            exact Jj13 _ _ _ _ h
  · intro j42 Jj42 h
    refine G.if_ne 21 dX6_goOne_14 (by decide) h (fun c43 h => ?_) (fun c43 h => ?_)
    · refine G.iconst (0 : Int32) dX6_goOne_17 ki_0 ?_
      refine G.goto 28 dX6_goOne_18 (by decide) ?_
      refine G.sub (lv' := [(0, .ref a0), (1, .ref a1), (2, .int a2), (3, .int a3), (4, .int v1)]) [1, 2, 3, 4, 0] rfl ?_
      exact Jj42 _ h
    · refine G.aload_n dX6_goOne_21 rfl rfl ?_
      refine G.iload dX6_goOne_22 rfl ?_
      refine G.iload_n dX6_goOne_24 rfl rfl ?_
      refine G.callVi (ci := 10) [.int v1, .int a3] [] dX6_goOne_25 lkX6_53 okX10_hearers rfl (fun v hv => C_X10_hearers hv) (Nat.le_of_ble_eq_true rfl) rfl rfl (Nat.le_of_ble_eq_true rfl) h (fun v44 h => ?_)
      refine G.sub (lv' := [(0, .ref a0), (1, .ref a1), (2, .int a2), (3, .int a3), (4, .int v1)]) [1, 2, 3, 4, 0] rfl ?_
      exact Jj42 _ h
-- OnlyUpward$Rule.go(LOnlyUpward$World;)V
set_option maxRecDepth 100000 in
set_option maxHeartbeats 4000000 in
def F_X6_go (n : Nat) (M : AM) (a0 : Nat) (a1 : Nat) : Option AM :=
  (gI 6 3 M a0).bind fun v1 => if v1 = 0 then (pZ 6 3 M a0 (1 : Int32)).bind fun M3 => (gR 6 0 M3 a0).bind fun v4 => (rcv 3 M3 v4 (F_X3_begin n M3 v4 a1)).bind fun M6 => (pI 6 1 M6 a0 (0 : Int32)).bind fun M7 => (pI 6 2 M7 a0 (0 : Int32)).bind fun M8 => (iter (fun (s9 : Int32 × AM) => if (24 : Int32) ≤ s9.1 then some (.inr s9.2) else (iter (fun (s11 : Int32 × AM) => (gR 10 0 s11.2 a1).bind fun v12 => (rdI s11.2 v12 (1 : Int32)).bind fun v13 => if v13 ≤ s11.1 then some (.inr s11.2) else (rcv 10 s11.2 a1 (F_X10_elder n s11.2 a1 s11.1 s9.1)).bind fun v15 => (rcv 6 s11.2 a0 (F_X6_goOne n s11.2 a0 a1 v15 s9.1)).bind fun M17 => some (.inl ((s11.1 + (1 : Int32)), M17))) n ((0 : Int32), s9.2)).bind fun (e11 : AM) => some (.inl ((s9.1 + (1 : Int32)), e11))) n ((0 : Int32), M8)).bind fun (e9 : AM) => some e9 else some M
set_option maxRecDepth 100000 in
set_option maxHeartbeats 4000000 in
theorem C_X6_go {n : Nat} {M : AM} {a0 : Nat} {a1 : Nat} {o : AM} (h : F_X6_go n M a0 a1 = some o) : Cn yX6_go cX6_go 4 none 4 [.ref a0, .ref a1] M none o := by
  unfold F_X6_go at h
  refine Cn.of rfl (Nat.le_of_ble_eq_true rfl) ?_
  show G yX6_go cX6_go 4 none 4 0 [(0, .ref a0), (1, .ref a1)] [] M none o
  refine G.aload_n dX6_go_0 rfl rfl ?_
  refine G.getI dX6_go_1 fkX6_25 fr6_3 h (fun v1 h => ?_)
  refine G.if_eq 8 dX6_go_4 (by decide) h (fun c2 h => ?_) (fun c2 h => ?_)
  · refine G.aload_n dX6_go_8 rfl rfl ?_
    refine G.iconst (1 : Int32) dX6_go_9 ki_1 ?_
    refine G.putZ dX6_go_10 fkX6_25 nf6_3 ft6_3 h (fun M3 h => ?_)
    refine G.aload_n dX6_go_13 rfl rfl ?_
    refine G.getR dX6_go_14 fkX6_12 fr6_0 h (fun v4 h => ?_)
    refine G.aload_n dX6_go_17 rfl rfl ?_
    refine G.callVv (ci := 3) [.ref a1] [] dX6_go_18 lkX6_29 okX3_begin rfl (fun v hv => C_X3_begin hv) (Nat.le_of_ble_eq_true rfl) rfl rfl (Nat.le_of_ble_eq_true rfl) h (fun M6 h => ?_)
    refine G.aload_n dX6_go_21 rfl rfl ?_
    refine G.iconst (0 : Int32) dX6_go_22 ki_0 ?_
    refine G.putI dX6_go_23 fkX6_18 nf6_1 ft6_1 h (fun M7 h => ?_)
    refine G.aload_n dX6_go_26 rfl rfl ?_
    refine G.iconst (0 : Int32) dX6_go_27 ki_0 ?_
    refine G.putI dX6_go_28 fkX6_22 nf6_2 ft6_2 h (fun M8 h => ?_)
    refine G.iconst (0 : Int32) dX6_go_31 ki_0 ?_
    refine G.istore_n (lv' := [(2, .int (0 : Int32)), (0, .ref a0), (1, .ref a1)]) dX6_go_32 rfl (Nat.le_of_ble_eq_true rfl) rfl ?_
    refine G.sub (lv' := [(0, .ref a0), (1, .ref a1), (2, .int (0 : Int32))]) [1, 2, 0] rfl ?_
    refine loopE (fun (s9 : Int32 × AM) => G yX6_go cX6_go 4 none 4 33 [(0, .ref a0), (1, .ref a1), (2, .int s9.1)] [] s9.2 none o) (fun (e9 : AM) => G yX6_go cX6_go 4 none 4 75 [] [] e9 none o) h ?_ ?_
    · intro e9 h
      show G yX6_go cX6_go 4 none 4 75 [] [] e9 none o
      exact G.vretW dX6_go_75 rfl h
    · intro s9 x9 h K9
      show G yX6_go cX6_go 4 none 4 33 [(0, .ref a0), (1, .ref a1), (2, .int s9.1)] [] s9.2 none o
      refine G.iload_n dX6_go_33 rfl rfl ?_
      refine G.bipush (24 : Int32) dX6_go_34 kb_24 ?_
      refine G.icmp_ge 75 dX6_go_36 (by decide) h (fun c10 h => ?_) (fun c10 h => ?_)
      · refine G.sub (lv' := []) [] rfl ?_
        have h := leafR' h K9
        exact h
      · refine G.iconst (0 : Int32) dX6_go_39 ki_0 ?_
        refine G.istore_n (lv' := [(3, .int (0 : Int32)), (0, .ref a0), (1, .ref a1), (2, .int s9.1)]) dX6_go_40 rfl (Nat.le_of_ble_eq_true rfl) rfl ?_
        refine G.sub (lv' := [(0, .ref a0), (1, .ref a1), (2, .int s9.1), (3, .int (0 : Int32))]) [1, 2, 3, 0] rfl ?_
        refine loopE (fun (s11 : Int32 × AM) => G yX6_go cX6_go 4 none 4 41 [(0, .ref a0), (1, .ref a1), (2, .int s9.1), (3, .int s11.1)] [] s11.2 none o) (fun (e11 : AM) => G yX6_go cX6_go 4 none 4 69 [(0, .ref a0), (1, .ref a1), (2, .int s9.1)] [] e11 none o) h ?_ ?_
        · intro e11 h
          show G yX6_go cX6_go 4 none 4 69 [(0, .ref a0), (1, .ref a1), (2, .int s9.1)] [] e11 none o
          refine G.iinc s9.1 (w := (s9.1 + (1 : Int32))) (lv' := [(2, .int (s9.1 + (1 : Int32))), (0, .ref a0), (1, .ref a1)]) dX6_go_69 rfl rfl (Nat.le_of_ble_eq_true rfl) rfl ?_
          refine G.goto 33 dX6_go_72 (by decide) ?_
          refine G.sub (lv' := [(0, .ref a0), (1, .ref a1), (2, .int (s9.1 + (1 : Int32)))]) [1, 2, 0] rfl ?_
          have h := leafL' h K9
          exact h
        · intro s11 x11 h K11
          show G yX6_go cX6_go 4 none 4 41 [(0, .ref a0), (1, .ref a1), (2, .int s9.1), (3, .int s11.1)] [] s11.2 none o
          refine G.iload_n dX6_go_41 rfl rfl ?_
          refine G.aload_n dX6_go_42 rfl rfl ?_
          refine G.getR dX6_go_43 fkX6_33 fr10_0 h (fun v12 h => ?_)
          refine G.iconst (1 : Int32) dX6_go_46 ki_1 ?_
          refine G.iald dX6_go_47 h (fun v13 h => ?_)
          refine G.icmp_ge 69 dX6_go_48 (by decide) h (fun c14 h => ?_) (fun c14 h => ?_)
          · refine G.sub (lv' := [(0, .ref a0), (1, .ref a1), (2, .int s9.1)]) [0, 1, 2] rfl ?_
            have h := leafR' h K11
            exact h
          · refine G.aload_n dX6_go_51 rfl rfl ?_
            refine G.aload_n dX6_go_52 rfl rfl ?_
            refine G.aload_n dX6_go_53 rfl rfl ?_
            refine G.iload_n dX6_go_54 rfl rfl ?_
            refine G.iload_n dX6_go_55 rfl rfl ?_
            refine G.callVi (ci := 10) [.int s11.1, .int s9.1] [.ref a1, .ref a0] dX6_go_56 lkX6_39 okX10_elder rfl (fun v hv => C_X10_elder hv) (Nat.le_of_ble_eq_true rfl) rfl rfl (Nat.le_of_ble_eq_true rfl) h (fun v15 h => ?_)
            refine G.iload_n dX6_go_59 rfl rfl ?_
            refine G.callVv (ci := 6) [.ref a1, .int v15, .int s9.1] [] dX6_go_60 lkX6_43 okX6_goOne rfl (fun v hv => C_X6_goOne hv) (Nat.le_of_ble_eq_true rfl) rfl rfl (Nat.le_of_ble_eq_true rfl) h (fun M17 h => ?_)
            refine G.iinc s11.1 (w := (s11.1 + (1 : Int32))) (lv' := [(3, .int (s11.1 + (1 : Int32))), (0, .ref a0), (1, .ref a1), (2, .int s9.1)]) dX6_go_63 rfl rfl (Nat.le_of_ble_eq_true rfl) rfl ?_
            refine G.goto 41 dX6_go_66 (by decide) ?_
            refine G.sub (lv' := [(0, .ref a0), (1, .ref a1), (2, .int s9.1), (3, .int (s11.1 + (1 : Int32)))]) [1, 2, 3, 0] rfl ?_
            have h := leafL' h K11
            exact h
  · exact G.vretW dX6_go_7 rfl h
-- OnlyUpward.rule(I)I
set_option maxRecDepth 100000 in
set_option maxHeartbeats 4000000 in
def F_X11_rule (n : Nat) (M : AM) (a0 : Nat) (a1 : Int32) : Option (Int32 × AM) :=
  if a1 < 0 then some ((-1 : Int32), M) else if a1 ≤ (2 : Int32) then (gR 11 14 M a0).bind fun v3 => (gR 11 6 M a0).bind fun v4 => (rcv 6 M v3 (F_X6_go n M v3 v4)).bind fun M6 => if a1 = 0 then (gR 11 14 M6 a0).bind fun v8 => (gR 6 0 M6 v8).bind fun v9 => (gR 11 6 M6 a0).bind fun v10 => (rcv 3 M6 v9 (F_X3_worthMissed n M6 v9 v10)).bind fun v11 => some (v11, M6) else if a1 = (1 : Int32) then (gR 11 14 M6 a0).bind fun v13 => (gI 6 1 M6 v13).bind fun v14 => some (v14, M6) else (gR 11 14 M6 a0).bind fun v15 => (gI 6 2 M6 v15).bind fun v16 => some (v16, M6) else some ((-1 : Int32), M)
set_option maxRecDepth 100000 in
set_option maxHeartbeats 4000000 in
theorem C_X11_rule {n : Nat} {M : AM} {a0 : Nat} {a1 : Int32} {o : (Int32 × AM)} (h : F_X11_rule n M a0 a1 = some o) : Cn yX11_rule cX11_rule 2 (some .int) 5 [.ref a0, .int a1] M (some (.int o.1)) o.2 := by
  unfold F_X11_rule at h
  refine Cn.of rfl (Nat.le_of_ble_eq_true rfl) ?_
  show G yX11_rule cX11_rule 2 (some .int) 5 0 [(0, .ref a0), (1, .int a1)] [] M (some (.int o.1)) o.2
  refine G.iload_n dX11_rule_0 rfl rfl ?_
  refine G.if_lt 9 dX11_rule_1 (by decide) h (fun c1 h => ?_) (fun c1 h => ?_)
  · refine G.iconst (-1 : Int32) dX11_rule_9 ki_m1 ?_
    exact G.iretW dX11_rule_10 rfl (rfl) h
  · refine G.iload_n dX11_rule_4 rfl rfl ?_
    refine G.iconst (2 : Int32) dX11_rule_5 ki_2 ?_
    refine G.icmp_le 11 dX11_rule_6 (by decide) h (fun c2 h => ?_) (fun c2 h => ?_)
    · refine G.aload_n dX11_rule_11 rfl rfl ?_
      refine G.getR dX11_rule_12 fkX11_91 fr11_14 h (fun v3 h => ?_)
      refine G.aload_n dX11_rule_15 rfl rfl ?_
      refine G.getR dX11_rule_16 fkX11_46 fr11_6 h (fun v4 h => ?_)
      refine G.callVv (ci := 6) [.ref v4] [] dX11_rule_19 lkX11_333 okX6_go rfl (fun v hv => C_X6_go hv) (Nat.le_of_ble_eq_true rfl) rfl rfl (Nat.le_of_ble_eq_true rfl) h (fun M6 h => ?_)
      refine G.iload_n dX11_rule_22 rfl rfl ?_
      refine G.if_ne 41 dX11_rule_23 (by decide) h (fun c7 h => ?_) (fun c7 h => ?_)
      · refine G.aload_n dX11_rule_26 rfl rfl ?_
        refine G.getR dX11_rule_27 fkX11_91 fr11_14 h (fun v8 h => ?_)
        refine G.getR dX11_rule_30 fkX11_336 fr6_0 h (fun v9 h => ?_)
        refine G.aload_n dX11_rule_33 rfl rfl ?_
        refine G.getR dX11_rule_34 fkX11_46 fr11_6 h (fun v10 h => ?_)
        refine G.callVi (ci := 3) [.ref v10] [] dX11_rule_37 lkX11_255 okX3_worthMissed rfl (fun v hv => C_X3_worthMissed hv) (Nat.le_of_ble_eq_true rfl) rfl rfl (Nat.le_of_ble_eq_true rfl) h (fun v11 h => ?_)
        exact G.iretW dX11_rule_40 rfl (rfl) h
      · refine G.iload_n dX11_rule_41 rfl rfl ?_
        refine G.iconst (1 : Int32) dX11_rule_42 ki_1 ?_
        refine G.icmp_ne 56 dX11_rule_43 (by decide) h (fun c12 h => ?_) (fun c12 h => ?_)
        · refine G.aload_n dX11_rule_46 rfl rfl ?_
          refine G.getR dX11_rule_47 fkX11_91 fr11_14 h (fun v13 h => ?_)
          refine G.getI dX11_rule_50 fkX11_337 fr6_1 h (fun v14 h => ?_)
          refine G.goto 63 dX11_rule_53 (by decide) ?_
          exact G.iretW dX11_rule_63 rfl (rfl) h
        · refine G.aload_n dX11_rule_56 rfl rfl ?_
          refine G.getR dX11_rule_57 fkX11_91 fr11_14 h (fun v15 h => ?_)
          refine G.getI dX11_rule_60 fkX11_338 fr6_2 h (fun v16 h => ?_)
          exact G.iretW dX11_rule_63 rfl (rfl) h
    · refine G.iconst (-1 : Int32) dX11_rule_9 ki_m1 ?_
      exact G.iretW dX11_rule_10 rfl (rfl) h
-- OnlyUpward.ruled(II)I
set_option maxRecDepth 100000 in
set_option maxHeartbeats 4000000 in
def F_X11_ruled (n : Nat) (M : AM) (a0 : Nat) (a1 : Int32) (a2 : Int32) : Option (Int32 × AM) :=
  (rcv 11 M a0 (F_X11_isOne n M a0 (1 : Int32) a1)).bind fun v1 => if v1 = 0 then some ((-1 : Int32), M) else (F_X11_isHourOrEnd n M a2).bind fun v3 => if v3 = 0 then some ((-1 : Int32), M) else (gR 11 14 M a0).bind fun v5 => (gR 11 6 M a0).bind fun v6 => (rcv 6 M v5 (F_X6_go n M v5 v6)).bind fun M8 => (gR 11 14 M8 a0).bind fun v9 => (gR 6 0 M8 v9).bind fun v10 => (rcv 3 M8 v10 (F_X3_thingsOf n M8 v10 a1 a2)).bind fun v11 => some (v11, M8)
set_option maxRecDepth 100000 in
set_option maxHeartbeats 4000000 in
theorem C_X11_ruled {n : Nat} {M : AM} {a0 : Nat} {a1 : Int32} {a2 : Int32} {o : (Int32 × AM)} (h : F_X11_ruled n M a0 a1 a2 = some o) : Cn yX11_ruled cX11_ruled 3 (some .int) 5 [.ref a0, .int a1, .int a2] M (some (.int o.1)) o.2 := by
  unfold F_X11_ruled at h
  refine Cn.of rfl (Nat.le_of_ble_eq_true rfl) ?_
  show G yX11_ruled cX11_ruled 3 (some .int) 5 0 [(0, .ref a0), (1, .int a1), (2, .int a2)] [] M (some (.int o.1)) o.2
  refine G.aload_n dX11_ruled_0 rfl rfl ?_
  refine G.iconst (1 : Int32) dX11_ruled_1 ki_1 ?_
  refine G.iload_n dX11_ruled_2 rfl rfl ?_
  refine G.callVi (ci := 11) [.int (1 : Int32), .int a1] [] dX11_ruled_3 lkX11_141 okX11_isOne rfl (fun v hv => C_X11_isOne hv) (Nat.le_of_ble_eq_true rfl) rfl rfl (Nat.le_of_ble_eq_true rfl) h (fun v1 h => ?_)
  refine G.if_eq 16 dX11_ruled_6 (by decide) h (fun c2 h => ?_) (fun c2 h => ?_)
  · refine G.iconst (-1 : Int32) dX11_ruled_16 ki_m1 ?_
    exact G.iretW dX11_ruled_17 rfl (rfl) h
  · refine G.iload_n dX11_ruled_9 rfl rfl ?_
    refine G.callSi [.int a2] [] dX11_ruled_10 lkX11_219 okX11_isHourOrEnd (fun v hv => C_X11_isHourOrEnd hv) (Nat.le_of_ble_eq_true rfl) rfl rfl (Nat.le_of_ble_eq_true rfl) h (fun v3 h => ?_)
    refine G.if_ne 18 dX11_ruled_13 (by decide) h (fun c4 h => ?_) (fun c4 h => ?_)
    · refine G.iconst (-1 : Int32) dX11_ruled_16 ki_m1 ?_
      exact G.iretW dX11_ruled_17 rfl (rfl) h
    · refine G.aload_n dX11_ruled_18 rfl rfl ?_
      refine G.getR dX11_ruled_19 fkX11_91 fr11_14 h (fun v5 h => ?_)
      refine G.aload_n dX11_ruled_22 rfl rfl ?_
      refine G.getR dX11_ruled_23 fkX11_46 fr11_6 h (fun v6 h => ?_)
      refine G.callVv (ci := 6) [.ref v6] [] dX11_ruled_26 lkX11_333 okX6_go rfl (fun v hv => C_X6_go hv) (Nat.le_of_ble_eq_true rfl) rfl rfl (Nat.le_of_ble_eq_true rfl) h (fun M8 h => ?_)
      refine G.aload_n dX11_ruled_29 rfl rfl ?_
      refine G.getR dX11_ruled_30 fkX11_91 fr11_14 h (fun v9 h => ?_)
      refine G.getR dX11_ruled_33 fkX11_336 fr6_0 h (fun v10 h => ?_)
      refine G.iload_n dX11_ruled_36 rfl rfl ?_
      refine G.iload_n dX11_ruled_37 rfl rfl ?_
      refine G.callVi (ci := 3) [.int a1, .int a2] [] dX11_ruled_38 lkX11_226 okX3_thingsOf rfl (fun v hv => C_X3_thingsOf hv) (Nat.le_of_ble_eq_true rfl) rfl rfl (Nat.le_of_ble_eq_true rfl) h (fun v11 h => ?_)
      exact G.iretW dX11_ruled_41 rfl (rfl) h
-- OnlyUpward.isFrail(I)Z
set_option maxRecDepth 100000 in
set_option maxHeartbeats 4000000 in
def F_X11_isFrail (n : Nat) (M : AM) (a0 : Int32) : Option Int32 :=
  if a0 < 0 then some (0 : Int32) else if (100 : Int32) < a0 then some (0 : Int32) else some (1 : Int32)
set_option maxRecDepth 100000 in
set_option maxHeartbeats 4000000 in
theorem C_X11_isFrail {n : Nat} {M : AM} {a0 : Int32} {o : Int32} (h : F_X11_isFrail n M a0 = some o) : Cn yX11_isFrail cX11_isFrail 1 (some .boolean) 0 [.int a0] M (some (.int o)) M := by
  unfold F_X11_isFrail at h
  refine Cn.of rfl (Nat.le_of_ble_eq_true rfl) ?_
  show G yX11_isFrail cX11_isFrail 1 (some .boolean) 0 0 [(0, .int a0)] [] M (some (.int o)) M
  refine G.iload_n dX11_isFrail_0 rfl rfl ?_
  refine G.if_lt 14 dX11_isFrail_1 (by decide) h (fun c1 h => ?_) (fun c1 h => ?_)
  · refine G.iconst (0 : Int32) dX11_isFrail_14 ki_0 ?_
    exact G.iret dX11_isFrail_15 rfl (by decide) h
  · refine G.iload_n dX11_isFrail_4 rfl rfl ?_
    refine G.bipush (100 : Int32) dX11_isFrail_5 kb_100 ?_
    refine G.icmp_gt 14 dX11_isFrail_7 (by decide) h (fun c2 h => ?_) (fun c2 h => ?_)
    · refine G.iconst (0 : Int32) dX11_isFrail_14 ki_0 ?_
      exact G.iret dX11_isFrail_15 rfl (by decide) h
    · refine G.iconst (1 : Int32) dX11_isFrail_10 ki_1 ?_
      refine G.goto 15 dX11_isFrail_11 (by decide) ?_
      exact G.iret dX11_isFrail_15 rfl (by decide) h
-- OnlyUpward.mix(II)I
set_option maxRecDepth 100000 in
set_option maxHeartbeats 4000000 in
def F_X11_mix (n : Nat) (M : AM) (a0 : Int32) (a1 : Int32) : Option Int32 :=
  lets (((a0 ^^^ a1) * (1103515245 : Int32)) + (12345 : Int32)) fun (w1 : Int32) => some (w1 ^^^ (ush w1 (15 : Int32)))
set_option maxRecDepth 100000 in
set_option maxHeartbeats 4000000 in
theorem C_X11_mix {n : Nat} {M : AM} {a0 : Int32} {a1 : Int32} {o : Int32} (h : F_X11_mix n M a0 a1 = some o) : Cn yX11_mix cX11_mix 3 (some .int) 0 [.int a0, .int a1] M (some (.int o)) M := by
  unfold F_X11_mix at h
  refine Cn.of rfl (Nat.le_of_ble_eq_true rfl) ?_
  show G yX11_mix cX11_mix 3 (some .int) 0 0 [(0, .int a0), (1, .int a1)] [] M (some (.int o)) M
  refine G.iload_n dX11_mix_0 rfl rfl ?_
  refine G.iload_n dX11_mix_1 rfl rfl ?_
  refine G.ixor dX11_mix_2 ?_
  refine G.ldc_w (1103515245 : Int32) dX11_mix_3 kcX11_374 ?_
  refine G.imul dX11_mix_6 ?_
  refine G.sipush (12345 : Int32) dX11_mix_7 ks_12345 ?_
  refine G.iadd dX11_mix_10 ?_
  refine lets_elim h (fun w1 ew1 h => ?_)
  rw [← ew1]
  refine G.istore_n (lv' := [(2, .int w1), (0, .int a0), (1, .int a1)]) dX11_mix_11 rfl (Nat.le_of_ble_eq_true rfl) rfl ?_
  refine G.iload_n dX11_mix_12 rfl rfl ?_
  refine G.iload_n dX11_mix_13 rfl rfl ?_
  refine G.bipush (15 : Int32) dX11_mix_14 kb_15 ?_
  refine G.iushr dX11_mix_16 ?_
  refine G.ixor dX11_mix_17 ?_
  exact G.iret dX11_mix_18 rfl (rfl) h
-- OnlyUpward.lot(III)I
set_option maxRecDepth 100000 in
set_option maxHeartbeats 4000000 in
def F_X11_lot (n : Nat) (M : AM) (a0 : Int32) (a1 : Int32) (a2 : Int32) : Option Int32 :=
  (F_X11_mix n M a1 (17 : Int32)).bind fun v1 => (F_X11_mix n M v1 a2).bind fun v2 => if 0 < a0 then gd (¬ a0 = 0) (some ((ush v2 (1 : Int32)) - (ush v2 (1 : Int32)) / a0 * a0)) else some (0 : Int32)
set_option maxRecDepth 100000 in
set_option maxHeartbeats 4000000 in
theorem C_X11_lot {n : Nat} {M : AM} {a0 : Int32} {a1 : Int32} {a2 : Int32} {o : Int32} (h : F_X11_lot n M a0 a1 a2 = some o) : Cn yX11_lot cX11_lot 4 (some .int) 1 [.int a0, .int a1, .int a2] M (some (.int o)) M := by
  unfold F_X11_lot at h
  refine Cn.of rfl (Nat.le_of_ble_eq_true rfl) ?_
  show G yX11_lot cX11_lot 4 (some .int) 1 0 [(0, .int a0), (1, .int a1), (2, .int a2)] [] M (some (.int o)) M
  refine G.iload_n dX11_lot_0 rfl rfl ?_
  refine G.bipush (17 : Int32) dX11_lot_1 kb_17 ?_
  refine G.callSi [.int a1, .int (17 : Int32)] [] dX11_lot_3 lkX11_371 okX11_mix (fun v hv => C_X11_mix hv) (Nat.le_of_ble_eq_true rfl) rfl rfl (Nat.le_of_ble_eq_true rfl) h (fun v1 h => ?_)
  refine G.iload_n dX11_lot_6 rfl rfl ?_
  refine G.callSi [.int v1, .int a2] [] dX11_lot_7 lkX11_371 okX11_mix (fun v hv => C_X11_mix hv) (Nat.le_of_ble_eq_true rfl) rfl rfl (Nat.le_of_ble_eq_true rfl) h (fun v2 h => ?_)
  refine G.istore_n (lv' := [(3, .int v2), (0, .int a0), (1, .int a1), (2, .int a2)]) dX11_lot_10 rfl (Nat.le_of_ble_eq_true rfl) rfl ?_
  refine G.iload_n dX11_lot_11 rfl rfl ?_
  refine G.if_gt 19 dX11_lot_12 (by decide) h (fun c3 h => ?_) (fun c3 h => ?_)
  · refine G.iload_n dX11_lot_19 rfl rfl ?_
    refine G.iconst (1 : Int32) dX11_lot_20 ki_1 ?_
    refine G.iushr dX11_lot_21 ?_
    refine G.iload_n dX11_lot_22 rfl rfl ?_
    refine gd_elim h (fun c4 h => ?_)
    refine G.irem dX11_lot_23 c4 ?_
    exact G.iret dX11_lot_24 rfl (rfl) h
  · refine G.iconst (0 : Int32) dX11_lot_15 ki_0 ?_
    refine G.goto 24 dX11_lot_16 (by decide) ?_
    exact G.iret dX11_lot_24 rfl (rfl) h
-- OnlyUpward$Course.drawDeaths(III)V
set_option maxRecDepth 100000 in
set_option maxHeartbeats 4000000 in
def F_X1_drawDeaths (n : Nat) (M : AM) (a0 : Nat) (a1 : Int32) (a2 : Int32) (a3 : Int32) : Option AM :=
  (rcv 1 M a0 (F_X1_nobodyDies n M a0)).bind fun M2 => (iter (fun (s3 : Int32 × AM) => if a3 ≤ s3.1 then some (.inr s3.2) else if (10 : Int32) ≤ s3.1 then some (.inr s3.2) else (iter (fun (s6 : Int32 × AM) => if (24 : Int32) ≤ s6.1 then some (.inr s6.2) else (gR 1 3 s6.2 a0).bind fun v8 => (rdI s6.2 v8 s3.1).bind fun v9 => if v9 = (99 : Int32) then (F_X11_lot n s6.2 (100 : Int32) a1 (((100 : Int32) * s6.1) + s3.1)).bind fun v11 => jn (fun (M12 : AM) => some (.inl ((s6.1 + (1 : Int32)), M12))) fun j13 => if a2 ≤ v11 then j13 s6.2 else (gR 1 3 s6.2 a0).bind fun v15 => (wrI s6.2 v15 s3.1 s6.1).bind fun M16 => j13 M16 else some (.inr s6.2)) n ((1 : Int32), s3.2)).bind fun (e6 : AM) => some (.inl ((s3.1 + (1 : Int32)), e6))) n ((0 : Int32), M2)).bind fun (e3 : AM) => some e3
set_option maxRecDepth 100000 in
set_option maxHeartbeats 4000000 in
theorem C_X1_drawDeaths {n : Nat} {M : AM} {a0 : Nat} {a1 : Int32} {a2 : Int32} {a3 : Int32} {o : AM} (h : F_X1_drawDeaths n M a0 a1 a2 a3 = some o) : Cn yX1_drawDeaths cX1_drawDeaths 6 none 2 [.ref a0, .int a1, .int a2, .int a3] M none o := by
  unfold F_X1_drawDeaths at h
  refine Cn.of rfl (Nat.le_of_ble_eq_true rfl) ?_
  show G yX1_drawDeaths cX1_drawDeaths 6 none 2 0 [(0, .ref a0), (1, .int a1), (2, .int a2), (3, .int a3)] [] M none o
  refine G.aload_n dX1_drawDeaths_0 rfl rfl ?_
  refine G.callVv (ci := 1) [] [] dX1_drawDeaths_1 lkX1_41 okX1_nobodyDies rfl (fun v hv => C_X1_nobodyDies hv) (Nat.le_of_ble_eq_true rfl) rfl rfl (Nat.le_of_ble_eq_true rfl) h (fun M2 h => ?_)
  refine G.iconst (0 : Int32) dX1_drawDeaths_4 ki_0 ?_
  refine G.istore (lv' := [(4, .int (0 : Int32)), (0, .ref a0), (1, .int a1), (2, .int a2), (3, .int a3)]) dX1_drawDeaths_5 (Nat.le_of_ble_eq_true rfl) rfl ?_
  refine G.sub (lv' := [(0, .ref a0), (1, .int a1), (2, .int a2), (3, .int a3), (4, .int (0 : Int32))]) [1, 2, 3, 4, 0] rfl ?_
  refine loopE (fun (s3 : Int32 × AM) => G yX1_drawDeaths cX1_drawDeaths 6 none 2 7 [(0, .ref a0), (1, .int a1), (2, .int a2), (3, .int a3), (4, .int s3.1)] [] s3.2 none o) (fun (e3 : AM) => G yX1_drawDeaths cX1_drawDeaths 6 none 2 81 [] [] e3 none o) h ?_ ?_
  · intro e3 h
    show G yX1_drawDeaths cX1_drawDeaths 6 none 2 81 [] [] e3 none o
    exact G.vretW dX1_drawDeaths_81 rfl h
  · intro s3 x3 h K3
    show G yX1_drawDeaths cX1_drawDeaths 6 none 2 7 [(0, .ref a0), (1, .int a1), (2, .int a2), (3, .int a3), (4, .int s3.1)] [] s3.2 none o
    refine G.iload dX1_drawDeaths_7 rfl ?_
    refine G.iload_n dX1_drawDeaths_9 rfl rfl ?_
    refine G.icmp_ge 81 dX1_drawDeaths_10 (by decide) h (fun c4 h => ?_) (fun c4 h => ?_)
    · refine G.sub (lv' := []) [] rfl ?_
      have h := leafR' h K3
      exact h
    · refine G.iload dX1_drawDeaths_13 rfl ?_
      refine G.bipush (10 : Int32) dX1_drawDeaths_15 kb_10 ?_
      refine G.icmp_ge 81 dX1_drawDeaths_17 (by decide) h (fun c5 h => ?_) (fun c5 h => ?_)
      · refine G.sub (lv' := []) [] rfl ?_
        have h := leafR' h K3
        exact h
      · refine G.iconst (1 : Int32) dX1_drawDeaths_20 ki_1 ?_
        refine G.istore (lv' := [(5, .int (1 : Int32)), (0, .ref a0), (1, .int a1), (2, .int a2), (3, .int a3), (4, .int s3.1)]) dX1_drawDeaths_21 (Nat.le_of_ble_eq_true rfl) rfl ?_
        refine G.sub (lv' := [(0, .ref a0), (1, .int a1), (2, .int a2), (3, .int a3), (4, .int s3.1), (5, .int (1 : Int32))]) [1, 2, 3, 4, 5, 0] rfl ?_
        refine loopE (fun (s6 : Int32 × AM) => G yX1_drawDeaths cX1_drawDeaths 6 none 2 23 [(0, .ref a0), (1, .int a1), (2, .int a2), (3, .int a3), (4, .int s3.1), (5, .int s6.1)] [] s6.2 none o) (fun (e6 : AM) => G yX1_drawDeaths cX1_drawDeaths 6 none 2 75 [(0, .ref a0), (1, .int a1), (2, .int a2), (3, .int a3), (4, .int s3.1)] [] e6 none o) h ?_ ?_
        · intro e6 h
          show G yX1_drawDeaths cX1_drawDeaths 6 none 2 75 [(0, .ref a0), (1, .int a1), (2, .int a2), (3, .int a3), (4, .int s3.1)] [] e6 none o
          refine G.iinc s3.1 (w := (s3.1 + (1 : Int32))) (lv' := [(4, .int (s3.1 + (1 : Int32))), (0, .ref a0), (1, .int a1), (2, .int a2), (3, .int a3)]) dX1_drawDeaths_75 rfl rfl (Nat.le_of_ble_eq_true rfl) rfl ?_
          refine G.goto 7 dX1_drawDeaths_78 (by decide) ?_
          refine G.sub (lv' := [(0, .ref a0), (1, .int a1), (2, .int a2), (3, .int a3), (4, .int (s3.1 + (1 : Int32)))]) [1, 2, 3, 4, 0] rfl ?_
          have h := leafL' h K3
          exact h
        · intro s6 x6 h K6
          show G yX1_drawDeaths cX1_drawDeaths 6 none 2 23 [(0, .ref a0), (1, .int a1), (2, .int a2), (3, .int a3), (4, .int s3.1), (5, .int s6.1)] [] s6.2 none o
          refine G.iload dX1_drawDeaths_23 rfl ?_
          refine G.bipush (24 : Int32) dX1_drawDeaths_25 kb_24 ?_
          refine G.icmp_ge 75 dX1_drawDeaths_27 (by decide) h (fun c7 h => ?_) (fun c7 h => ?_)
          · refine G.sub (lv' := [(0, .ref a0), (1, .int a1), (2, .int a2), (3, .int a3), (4, .int s3.1)]) [0, 1, 2, 3, 4] rfl ?_
            have h := leafR' h K6
            exact h
          · refine G.aload_n dX1_drawDeaths_30 rfl rfl ?_
            refine G.getR dX1_drawDeaths_31 fkX1_25 fr1_3 h (fun v8 h => ?_)
            refine G.iload dX1_drawDeaths_34 rfl ?_
            refine G.iald dX1_drawDeaths_36 h (fun v9 h => ?_)
            refine G.bipush (99 : Int32) dX1_drawDeaths_37 kb_99 ?_
            refine G.icmp_ne 75 dX1_drawDeaths_39 (by decide) h (fun c10 h => ?_) (fun c10 h => ?_)
            · refine G.bipush (100 : Int32) dX1_drawDeaths_42 kb_100 ?_
              refine G.iload_n dX1_drawDeaths_44 rfl rfl ?_
              refine G.bipush (100 : Int32) dX1_drawDeaths_45 kb_100 ?_
              refine G.iload dX1_drawDeaths_47 rfl ?_
              refine G.imul dX1_drawDeaths_49 ?_
              refine G.iload dX1_drawDeaths_50 rfl ?_
              refine G.iadd dX1_drawDeaths_52 ?_
              refine G.callSi [.int (100 : Int32), .int a1, .int (((100 : Int32) * s6.1) + s3.1)] [] dX1_drawDeaths_53 lkX1_44 okX11_lot (fun v hv => C_X11_lot hv) (Nat.le_of_ble_eq_true rfl) rfl rfl (Nat.le_of_ble_eq_true rfl) h (fun v11 h => ?_)
              refine G.iload_n dX1_drawDeaths_56 rfl rfl ?_
              refine jn_elim (fun j13 => ∀ (M12 : AM), j13 M12 = some x6 → G yX1_drawDeaths cX1_drawDeaths 6 none 2 69 [(0, .ref a0), (1, .int a1), (2, .int a2), (3, .int a3), (4, .int s3.1), (5, .int s6.1)] [] M12 none o) h ?_ ?_
              · intro M12 h
                refine G.iinc s6.1 (w := (s6.1 + (1 : Int32))) (lv' := [(5, .int (s6.1 + (1 : Int32))), (0, .ref a0), (1, .int a1), (2, .int a2), (3, .int a3), (4, .int s3.1)]) dX1_drawDeaths_69 rfl rfl (Nat.le_of_ble_eq_true rfl) rfl ?_
                refine G.goto 23 dX1_drawDeaths_72 (by decide) ?_
                refine G.sub (lv' := [(0, .ref a0), (1, .int a1), (2, .int a2), (3, .int a3), (4, .int s3.1), (5, .int (s6.1 + (1 : Int32)))]) [1, 2, 3, 4, 5, 0] rfl ?_
                have h := leafL' h K6
                exact h
              · intro j13 Jj13 h
                refine G.icmp_ge 69 dX1_drawDeaths_57 (by decide) h (fun c14 h => ?_) (fun c14 h => ?_)
                · refine G.sub (lv' := [(0, .ref a0), (1, .int a1), (2, .int a2), (3, .int a3), (4, .int s3.1), (5, .int s6.1)]) [0, 1, 2, 3, 4, 5] rfl ?_
                  exact Jj13 _ h
                · refine G.aload_n dX1_drawDeaths_60 rfl rfl ?_
                  refine G.getR dX1_drawDeaths_61 fkX1_25 fr1_3 h (fun v15 h => ?_)
                  refine G.iload dX1_drawDeaths_64 rfl ?_
                  refine G.iload dX1_drawDeaths_66 rfl ?_
                  refine G.iast dX1_drawDeaths_68 h (fun M16 h => ?_)
                  refine G.sub (lv' := [(0, .ref a0), (1, .int a1), (2, .int a2), (3, .int a3), (4, .int s3.1), (5, .int s6.1)]) [0, 1, 2, 3, 4, 5] rfl ?_
                  exact Jj13 _ h
            · refine G.sub (lv' := [(0, .ref a0), (1, .int a1), (2, .int a2), (3, .int a3), (4, .int s3.1)]) [0, 1, 2, 3, 4] rfl ?_
              have h := leafR' h K6
              exact h
-- OnlyUpward.goDay(II)V
set_option maxRecDepth 100000 in
set_option maxHeartbeats 4000000 in
def F_X11_goDay (n : Nat) (M : AM) (a0 : Nat) (a1 : Int32) (a2 : Int32) : Option AM :=
  (gR 11 11 M a0).bind fun v1 => (gR 11 6 M a0).bind fun v2 => (gR 10 0 M v2).bind fun v3 => (rdI M v3 (1 : Int32)).bind fun v4 => (rcv 1 M v1 (F_X1_drawDeaths n M v1 a1 a2 v4)).bind fun M6 => (gR 11 11 M6 a0).bind fun v7 => (gR 11 6 M6 a0).bind fun v8 => (gR 11 8 M6 a0).bind fun v9 => (rcv 1 M6 v7 (F_X1_go n M6 v7 v8 v9)).bind fun M11 => some M11
set_option maxRecDepth 100000 in
set_option maxHeartbeats 4000000 in
theorem C_X11_goDay {n : Nat} {M : AM} {a0 : Nat} {a1 : Int32} {a2 : Int32} {o : AM} (h : F_X11_goDay n M a0 a1 a2 = some o) : Cn yX11_goDay cX11_goDay 3 none 6 [.ref a0, .int a1, .int a2] M none o := by
  unfold F_X11_goDay at h
  refine Cn.of rfl (Nat.le_of_ble_eq_true rfl) ?_
  show G yX11_goDay cX11_goDay 3 none 6 0 [(0, .ref a0), (1, .int a1), (2, .int a2)] [] M none o
  refine G.aload_n dX11_goDay_0 rfl rfl ?_
  refine G.getR dX11_goDay_1 fkX11_71 fr11_11 h (fun v1 h => ?_)
  refine G.iload_n dX11_goDay_4 rfl rfl ?_
  refine G.iload_n dX11_goDay_5 rfl rfl ?_
  refine G.aload_n dX11_goDay_6 rfl rfl ?_
  refine G.getR dX11_goDay_7 fkX11_46 fr11_6 h (fun v2 h => ?_)
  refine G.getR dX11_goDay_10 fkX11_137 fr10_0 h (fun v3 h => ?_)
  refine G.iconst (1 : Int32) dX11_goDay_13 ki_1 ?_
  refine G.iald dX11_goDay_14 h (fun v4 h => ?_)
  refine G.callVv (ci := 1) [.int a1, .int a2, .int v4] [] dX11_goDay_15 lkX11_341 okX1_drawDeaths rfl (fun v hv => C_X1_drawDeaths hv) (Nat.le_of_ble_eq_true rfl) rfl rfl (Nat.le_of_ble_eq_true rfl) h (fun M6 h => ?_)
  refine G.aload_n dX11_goDay_18 rfl rfl ?_
  refine G.getR dX11_goDay_19 fkX11_71 fr11_11 h (fun v7 h => ?_)
  refine G.aload_n dX11_goDay_22 rfl rfl ?_
  refine G.getR dX11_goDay_23 fkX11_46 fr11_6 h (fun v8 h => ?_)
  refine G.aload_n dX11_goDay_26 rfl rfl ?_
  refine G.getR dX11_goDay_27 fkX11_56 fr11_8 h (fun v9 h => ?_)
  refine G.callVv (ci := 1) [.ref v8, .ref v9] [] dX11_goDay_30 lkX11_208 okX1_go rfl (fun v hv => C_X1_go hv) (Nat.le_of_ble_eq_true rfl) rfl rfl (Nat.le_of_ble_eq_true rfl) h (fun M11 h => ?_)
  exact G.vretW dX11_goDay_33 rfl h
-- OnlyUpward$Course.goneThings(LOnlyUpward$World;)I
set_option maxRecDepth 100000 in
set_option maxHeartbeats 4000000 in
def F_X1_goneThings (n : Nat) (M : AM) (a0 : Nat) (a1 : Nat) : Option Int32 :=
  (rcv 1 M a0 (F_X1_aliveAt n M a0 (23 : Int32) a1)).bind fun v1 => (iter (fun (s2 : Int32 × Int32 × Int32) => (gR 10 0 M a1).bind fun v3 => (rdI M v3 (1 : Int32)).bind fun v4 => if v4 ≤ s2.2.2 then some (.inr (s2.1, s2.2.1)) else (gR 1 0 M a0).bind fun v6 => (rcv 3 M v6 (F_X3_thingsOf n M v6 s2.2.2 (24 : Int32))).bind fun v7 => (F_X11_hasBit n M v1 s2.2.2).bind fun v8 => jn (fun (u9 : Int32) => some (.inl ((s2.1 ||| v7), (s2.2.1 ||| u9), (s2.2.2 + (1 : Int32))))) fun j10 => if v8 = 0 then j10 (0 : Int32) else j10 v7) n ((0 : Int32), (0 : Int32), (0 : Int32))).bind fun (e2 : Int32 × Int32) => some (e2.1 &&& (e2.2 ^^^ (-1 : Int32)))
set_option maxRecDepth 100000 in
set_option maxHeartbeats 4000000 in
theorem C_X1_goneThings {n : Nat} {M : AM} {a0 : Nat} {a1 : Nat} {o : Int32} (h : F_X1_goneThings n M a0 a1 = some o) : Cn yX1_goneThings cX1_goneThings 7 (some .int) 3 [.ref a0, .ref a1] M (some (.int o)) M := by
  unfold F_X1_goneThings at h
  refine Cn.of rfl (Nat.le_of_ble_eq_true rfl) ?_
  show G yX1_goneThings cX1_goneThings 7 (some .int) 3 0 [(0, .ref a0), (1, .ref a1)] [] M (some (.int o)) M
  refine G.aload_n dX1_goneThings_0 rfl rfl ?_
  refine G.bipush (23 : Int32) dX1_goneThings_1 kb_23 ?_
  refine G.aload_n dX1_goneThings_3 rfl rfl ?_
  refine G.callVi (ci := 1) [.int (23 : Int32), .ref a1] [] dX1_goneThings_4 lkX1_57 okX1_aliveAt rfl (fun v hv => C_X1_aliveAt hv) (Nat.le_of_ble_eq_true rfl) rfl rfl (Nat.le_of_ble_eq_true rfl) h (fun v1 h => ?_)
  refine G.istore_n (lv' := [(2, .int v1), (0, .ref a0), (1, .ref a1)]) dX1_goneThings_7 rfl (Nat.le_of_ble_eq_true rfl) rfl ?_
  refine G.iconst (0 : Int32) dX1_goneThings_8 ki_0 ?_
  refine G.istore_n (lv' := [(3, .int (0 : Int32)), (2, .int v1), (0, .ref a0), (1, .ref a1)]) dX1_goneThings_9 rfl (Nat.le_of_ble_eq_true rfl) rfl ?_
  refine G.iconst (0 : Int32) dX1_goneThings_10 ki_0 ?_
  refine G.istore (lv' := [(4, .int (0 : Int32)), (3, .int (0 : Int32)), (2, .int v1), (0, .ref a0), (1, .ref a1)]) dX1_goneThings_11 (Nat.le_of_ble_eq_true rfl) rfl ?_
  refine G.iconst (0 : Int32) dX1_goneThings_13 ki_0 ?_
  refine G.istore (lv' := [(5, .int (0 : Int32)), (4, .int (0 : Int32)), (3, .int (0 : Int32)), (2, .int v1), (0, .ref a0), (1, .ref a1)]) dX1_goneThings_14 (Nat.le_of_ble_eq_true rfl) rfl ?_
  refine G.sub (lv' := [(0, .ref a0), (1, .ref a1), (2, .int v1), (3, .int (0 : Int32)), (4, .int (0 : Int32)), (5, .int (0 : Int32))]) [4, 5, 3, 2, 1, 0] rfl ?_
  refine loopE (fun (s2 : Int32 × Int32 × Int32) => G yX1_goneThings cX1_goneThings 7 (some .int) 3 16 [(0, .ref a0), (1, .ref a1), (2, .int v1), (3, .int s2.1), (4, .int s2.2.1), (5, .int s2.2.2)] [] M (some (.int o)) M) (fun (e2 : Int32 × Int32) => G yX1_goneThings cX1_goneThings 7 (some .int) 3 71 [(3, .int e2.1), (4, .int e2.2)] [] M (some (.int o)) M) h ?_ ?_
  · intro e2 h
    show G yX1_goneThings cX1_goneThings 7 (some .int) 3 71 [(3, .int e2.1), (4, .int e2.2)] [] M (some (.int o)) M
    refine G.iload_n dX1_goneThings_71 rfl rfl ?_
    refine G.iload dX1_goneThings_72 rfl ?_
    refine G.iconst (-1 : Int32) dX1_goneThings_74 ki_m1 ?_
    refine G.ixor dX1_goneThings_75 ?_
    refine G.iand dX1_goneThings_76 ?_
    exact G.iret dX1_goneThings_77 rfl (rfl) h
  · intro s2 x2 h K2
    show G yX1_goneThings cX1_goneThings 7 (some .int) 3 16 [(0, .ref a0), (1, .ref a1), (2, .int v1), (3, .int s2.1), (4, .int s2.2.1), (5, .int s2.2.2)] [] M (some (.int o)) M
    refine G.iload dX1_goneThings_16 rfl ?_
    refine G.aload_n dX1_goneThings_18 rfl rfl ?_
    refine G.getR dX1_goneThings_19 fkX1_48 fr10_0 h (fun v3 h => ?_)
    refine G.iconst (1 : Int32) dX1_goneThings_22 ki_1 ?_
    refine G.iald dX1_goneThings_23 h (fun v4 h => ?_)
    refine G.icmp_ge 71 dX1_goneThings_24 (by decide) h (fun c5 h => ?_) (fun c5 h => ?_)
    · refine G.sub (lv' := [(3, .int s2.1), (4, .int s2.2.1)]) [3, 4] rfl ?_
      have h := leafR' h K2
      exact h
    · refine G.aload_n dX1_goneThings_27 rfl rfl ?_
      refine G.getR dX1_goneThings_28 fkX1_12 fr1_0 h (fun v6 h => ?_)
      refine G.iload dX1_goneThings_31 rfl ?_
      refine G.bipush (24 : Int32) dX1_goneThings_33 kb_24 ?_
      refine G.callVi (ci := 3) [.int s2.2.2, .int (24 : Int32)] [] dX1_goneThings_35 lkX1_131 okX3_thingsOf rfl (fun v hv => C_X3_thingsOf hv) (Nat.le_of_ble_eq_true rfl) rfl rfl (Nat.le_of_ble_eq_true rfl) h (fun v7 h => ?_)
      refine G.istore (lv' := [(6, .int v7), (0, .ref a0), (1, .ref a1), (2, .int v1), (3, .int s2.1), (4, .int s2.2.1), (5, .int s2.2.2)]) dX1_goneThings_38 (Nat.le_of_ble_eq_true rfl) rfl ?_
      refine G.iload_n dX1_goneThings_40 rfl rfl ?_
      refine G.iload dX1_goneThings_41 rfl ?_
      refine G.ior dX1_goneThings_43 ?_
      refine G.istore_n (lv' := [(3, .int (s2.1 ||| v7)), (6, .int v7), (0, .ref a0), (1, .ref a1), (2, .int v1), (4, .int s2.2.1), (5, .int s2.2.2)]) dX1_goneThings_44 rfl (Nat.le_of_ble_eq_true rfl) rfl ?_
      refine G.iload dX1_goneThings_45 rfl ?_
      refine G.iload_n dX1_goneThings_47 rfl rfl ?_
      refine G.iload dX1_goneThings_48 rfl ?_
      refine G.callSi [.int v1, .int s2.2.2] [.int s2.2.1] dX1_goneThings_50 lkX1_88 okX11_hasBit (fun v hv => C_X11_hasBit hv) (Nat.le_of_ble_eq_true rfl) rfl rfl (Nat.le_of_ble_eq_true rfl) h (fun v8 h => ?_)
      refine jn_elim (fun j10 => ∀ (u9 : Int32), j10 u9 = some x2 → G yX1_goneThings cX1_goneThings 7 (some .int) 3 62 [(0, .ref a0), (1, .ref a1), (2, .int v1), (3, .int (s2.1 ||| v7)), (5, .int s2.2.2)] [.int u9, .int s2.2.1] M (some (.int o)) M) h ?_ ?_
      · intro u9 h
        refine G.ior dX1_goneThings_62 ?_
        refine G.istore (lv' := [(4, .int (s2.2.1 ||| u9)), (0, .ref a0), (1, .ref a1), (2, .int v1), (3, .int (s2.1 ||| v7)), (5, .int s2.2.2)]) dX1_goneThings_63 (Nat.le_of_ble_eq_true rfl) rfl ?_
        refine G.iinc s2.2.2 (w := (s2.2.2 + (1 : Int32))) (lv' := [(5, .int (s2.2.2 + (1 : Int32))), (4, .int (s2.2.1 ||| u9)), (0, .ref a0), (1, .ref a1), (2, .int v1), (3, .int (s2.1 ||| v7))]) dX1_goneThings_65 rfl rfl (Nat.le_of_ble_eq_true rfl) rfl ?_
        refine G.goto 16 dX1_goneThings_68 (by decide) ?_
        refine G.sub (lv' := [(0, .ref a0), (1, .ref a1), (2, .int v1), (3, .int (s2.1 ||| v7)), (4, .int (s2.2.1 ||| u9)), (5, .int (s2.2.2 + (1 : Int32)))]) [2, 3, 4, 5, 1, 0] rfl ?_
        have h := leafL' h K2
        exact h
      · intro j10 Jj10 h
        refine G.if_eq 61 dX1_goneThings_53 (by decide) h (fun c11 h => ?_) (fun c11 h => ?_)
        · refine G.iconst (0 : Int32) dX1_goneThings_61 ki_0 ?_
          refine G.sub (lv' := [(0, .ref a0), (1, .ref a1), (2, .int v1), (3, .int (s2.1 ||| v7)), (5, .int s2.2.2)]) [2, 3, 4, 0, 6] rfl ?_
          exact Jj10 _ h
        · refine G.iload dX1_goneThings_56 rfl ?_
          refine G.goto 62 dX1_goneThings_58 (by decide) ?_
          refine G.sub (lv' := [(0, .ref a0), (1, .ref a1), (2, .int v1), (3, .int (s2.1 ||| v7)), (5, .int s2.2.2)]) [2, 3, 4, 0, 6] rfl ?_
          exact Jj10 _ h
-- OnlyUpward.day(III)I
set_option maxRecDepth 100000 in
set_option maxHeartbeats 4000000 in
def F_X11_day (n : Nat) (M : AM) (a0 : Nat) (a1 : Int32) (a2 : Int32) (a3 : Int32) : Option (Int32 × AM) :=
  (F_X11_isFrail n M a2).bind fun v1 => if v1 = 0 then some ((-1 : Int32), M) else if a3 < 0 then some ((-1 : Int32), M) else if a3 ≤ (3 : Int32) then (rcv 11 M a0 (F_X11_goDay n M a0 a1 a2)).bind fun M6 => if a3 = (0 : Int32) then (gR 11 11 M6 a0).bind fun v8 => (gR 11 6 M6 a0).bind fun v9 => (rcv 1 M6 v8 (F_X1_aliveAt n M6 v8 (23 : Int32) v9)).bind fun v10 => some (v10, M6) else if a3 = (1 : Int32) then (gR 11 11 M6 a0).bind fun v12 => (gR 11 6 M6 a0).bind fun v13 => (rcv 1 M6 v12 (F_X1_goneThings n M6 v12 v13)).bind fun v14 => some (v14, M6) else if a3 = (2 : Int32) then (gR 11 11 M6 a0).bind fun v16 => (gR 1 0 M6 v16).bind fun v17 => (gR 11 6 M6 a0).bind fun v18 => (rcv 3 M6 v17 (F_X3_worthMissed n M6 v17 v18)).bind fun v19 => some (v19, M6) else (gR 11 11 M6 a0).bind fun v20 => (gI 1 5 M6 v20).bind fun v21 => some (v21, M6) else some ((-1 : Int32), M)
set_option maxRecDepth 100000 in
set_option maxHeartbeats 4000000 in
theorem C_X11_day {n : Nat} {M : AM} {a0 : Nat} {a1 : Int32} {a2 : Int32} {a3 : Int32} {o : (Int32 × AM)} (h : F_X11_day n M a0 a1 a2 a3 = some o) : Cn yX11_day cX11_day 4 (some .int) 7 [.ref a0, .int a1, .int a2, .int a3] M (some (.int o.1)) o.2 := by
  unfold F_X11_day at h
  refine Cn.of rfl (Nat.le_of_ble_eq_true rfl) ?_
  show G yX11_day cX11_day 4 (some .int) 7 0 [(0, .ref a0), (1, .int a1), (2, .int a2), (3, .int a3)] [] M (some (.int o.1)) o.2
  refine G.iload_n dX11_day_0 rfl rfl ?_
  refine G.callSi [.int a2] [] dX11_day_1 lkX11_345 okX11_isFrail (fun v hv => C_X11_isFrail hv) (Nat.le_of_ble_eq_true rfl) rfl rfl (Nat.le_of_ble_eq_true rfl) h (fun v1 h => ?_)
  refine G.if_eq 16 dX11_day_4 (by decide) h (fun c2 h => ?_) (fun c2 h => ?_)
  · refine G.iconst (-1 : Int32) dX11_day_16 ki_m1 ?_
    exact G.iretW dX11_day_17 rfl (rfl) h
  · refine G.iload_n dX11_day_7 rfl rfl ?_
    refine G.if_lt 16 dX11_day_8 (by decide) h (fun c3 h => ?_) (fun c3 h => ?_)
    · refine G.iconst (-1 : Int32) dX11_day_16 ki_m1 ?_
      exact G.iretW dX11_day_17 rfl (rfl) h
    · refine G.iload_n dX11_day_11 rfl rfl ?_
      refine G.iconst (3 : Int32) dX11_day_12 ki_3 ?_
      refine G.icmp_le 18 dX11_day_13 (by decide) h (fun c4 h => ?_) (fun c4 h => ?_)
      · refine G.aload_n dX11_day_18 rfl rfl ?_
        refine G.iload_n dX11_day_19 rfl rfl ?_
        refine G.iload_n dX11_day_20 rfl rfl ?_
        refine G.callVv (ci := 11) [.int a1, .int a2] [] dX11_day_21 lkX11_348 okX11_goDay rfl (fun v hv => C_X11_goDay hv) (Nat.le_of_ble_eq_true rfl) rfl rfl (Nat.le_of_ble_eq_true rfl) h (fun M6 h => ?_)
        refine G.iload_n dX11_day_24 rfl rfl ?_
        refine G.sw h (fun c7 h => ?_) (fun c7 h => ?_)
        · refine G.tableIn 52 dX11_day_25 (by rw [c7]; decide) (by rw [c7]; decide) (by rw [c7]; rfl) (by decide) ?_
          refine G.aload_n dX11_day_52 rfl rfl ?_
          refine G.getR dX11_day_53 fkX11_71 fr11_11 h (fun v8 h => ?_)
          refine G.bipush (23 : Int32) dX11_day_56 kb_23 ?_
          refine G.aload_n dX11_day_58 rfl rfl ?_
          refine G.getR dX11_day_59 fkX11_46 fr11_6 h (fun v9 h => ?_)
          refine G.callVi (ci := 1) [.int (23 : Int32), .ref v9] [] dX11_day_62 lkX11_351 okX1_aliveAt rfl (fun v hv => C_X1_aliveAt hv) (Nat.le_of_ble_eq_true rfl) rfl rfl (Nat.le_of_ble_eq_true rfl) h (fun v10 h => ?_)
          exact G.iretW dX11_day_65 rfl (rfl) h
        · refine G.sw h (fun c11 h => ?_) (fun c11 h => ?_)
          · refine G.tableIn 66 dX11_day_25 (by rw [c11]; decide) (by rw [c11]; decide) (by rw [c11]; rfl) (by decide) ?_
            refine G.aload_n dX11_day_66 rfl rfl ?_
            refine G.getR dX11_day_67 fkX11_71 fr11_11 h (fun v12 h => ?_)
            refine G.aload_n dX11_day_70 rfl rfl ?_
            refine G.getR dX11_day_71 fkX11_46 fr11_6 h (fun v13 h => ?_)
            refine G.callVi (ci := 1) [.ref v13] [] dX11_day_74 lkX11_355 okX1_goneThings rfl (fun v hv => C_X1_goneThings hv) (Nat.le_of_ble_eq_true rfl) rfl rfl (Nat.le_of_ble_eq_true rfl) h (fun v14 h => ?_)
            exact G.iretW dX11_day_77 rfl (rfl) h
          · refine G.sw h (fun c15 h => ?_) (fun c15 h => ?_)
            · refine G.tableIn 78 dX11_day_25 (by rw [c15]; decide) (by rw [c15]; decide) (by rw [c15]; rfl) (by decide) ?_
              refine G.aload_n dX11_day_78 rfl rfl ?_
              refine G.getR dX11_day_79 fkX11_71 fr11_11 h (fun v16 h => ?_)
              refine G.getR dX11_day_82 fkX11_222 fr1_0 h (fun v17 h => ?_)
              refine G.aload_n dX11_day_85 rfl rfl ?_
              refine G.getR dX11_day_86 fkX11_46 fr11_6 h (fun v18 h => ?_)
              refine G.callVi (ci := 3) [.ref v18] [] dX11_day_89 lkX11_255 okX3_worthMissed rfl (fun v hv => C_X3_worthMissed hv) (Nat.le_of_ble_eq_true rfl) rfl rfl (Nat.le_of_ble_eq_true rfl) h (fun v19 h => ?_)
              exact G.iretW dX11_day_92 rfl (rfl) h
            · refine G.tableOut 93 dX11_day_25 (sw_out (lo := 0) (hi := 2) (fun z22 g1 g2 ge => ?_)) (by decide) ?_
              · have hz : z22 = 0 ∨ z22 = 1 ∨ z22 = 2 := by omega
                rcases hz with rfl | rfl | rfl
                · exact c7 ge
                · exact c11 ge
                · exact c15 ge
              · refine G.aload_n dX11_day_93 rfl rfl ?_
                refine G.getR dX11_day_94 fkX11_71 fr11_11 h (fun v20 h => ?_)
                refine G.getI dX11_day_97 fkX11_358 fr1_5 h (fun v21 h => ?_)
                exact G.iretW dX11_day_100 rfl (rfl) h
      · refine G.iconst (-1 : Int32) dX11_day_16 ki_m1 ?_
        exact G.iretW dX11_day_17 rfl (rfl) h
