-- OnlyUpward.knows(II)I
set_option maxRecDepth 100000 in
set_option maxHeartbeats 4000000 in
def F_X11_knows (n : Nat) (M : AM) (a0 : Nat) (a1 : Int32) (a2 : Int32) : Option (Int32 × AM) :=
  (rcv 11 M a0 (F_X11_isOne n M a0 (1 : Int32) a1)).bind fun v1 => if v1 = 0 then some ((-1 : Int32), M) else (F_X11_isHourOrEnd n M a2).bind fun v3 => if v3 = 0 then some ((-1 : Int32), M) else (rcv 11 M a0 (F_X11_planCourse n M a0)).bind fun v5 => (gR 1 0 v5.2 v5.1).bind fun v6 => (rcv 3 v5.2 v6 (F_X3_thingsOf n v5.2 v6 a1 a2)).bind fun v7 => some (v7, v5.2)
set_option maxRecDepth 100000 in
set_option maxHeartbeats 4000000 in
theorem C_X11_knows {n : Nat} {M : AM} {a0 : Nat} {a1 : Int32} {a2 : Int32} {o : (Int32 × AM)} (h : F_X11_knows n M a0 a1 a2 = some o) : Cn yX11_knows cX11_knows 3 (some .int) 7 [.ref a0, .int a1, .int a2] M (some (.int o.1)) o.2 := by
  unfold F_X11_knows at h
  refine Cn.of rfl (Nat.le_of_ble_eq_true rfl) ?_
  show G yX11_knows cX11_knows 3 (some .int) 7 0 [(0, .ref a0), (1, .int a1), (2, .int a2)] [] M (some (.int o.1)) o.2
  refine G.aload_n dX11_knows_0 rfl rfl ?_
  refine G.iconst (1 : Int32) dX11_knows_1 ki_1 ?_
  refine G.iload_n dX11_knows_2 rfl rfl ?_
  refine G.callVi (ci := 11) [.int (1 : Int32), .int a1] [] dX11_knows_3 lkX11_141 okX11_isOne rfl (fun v hv => C_X11_isOne hv) (Nat.le_of_ble_eq_true rfl) rfl rfl (Nat.le_of_ble_eq_true rfl) h (fun v1 h => ?_)
  refine G.if_eq 16 dX11_knows_6 (by decide) h (fun c2 h => ?_) (fun c2 h => ?_)
  · refine G.iconst (-1 : Int32) dX11_knows_16 ki_m1 ?_
    exact G.iretW dX11_knows_17 rfl (rfl) h
  · refine G.iload_n dX11_knows_9 rfl rfl ?_
    refine G.callSi [.int a2] [] dX11_knows_10 lkX11_219 okX11_isHourOrEnd (fun v hv => C_X11_isHourOrEnd hv) (Nat.le_of_ble_eq_true rfl) rfl rfl (Nat.le_of_ble_eq_true rfl) h (fun v3 h => ?_)
    refine G.if_ne 18 dX11_knows_13 (by decide) h (fun c4 h => ?_) (fun c4 h => ?_)
    · refine G.iconst (-1 : Int32) dX11_knows_16 ki_m1 ?_
      exact G.iretW dX11_knows_17 rfl (rfl) h
    · refine G.aload_n dX11_knows_18 rfl rfl ?_
      refine G.callVr (ci := 11) [] [] dX11_knows_19 lkX11_189 okX11_planCourse rfl (fun v hv => C_X11_planCourse hv) (Nat.le_of_ble_eq_true rfl) rfl rfl (Nat.le_of_ble_eq_true rfl) h (fun v5 h => ?_)
      refine G.getR dX11_knows_22 fkX11_222 fr1_0 h (fun v6 h => ?_)
      refine G.iload_n dX11_knows_25 rfl rfl ?_
      refine G.iload_n dX11_knows_26 rfl rfl ?_
      refine G.callVi (ci := 3) [.int a1, .int a2] [] dX11_knows_27 lkX11_226 okX3_thingsOf rfl (fun v hv => C_X3_thingsOf hv) (Nat.le_of_ble_eq_true rfl) rfl rfl (Nat.le_of_ble_eq_true rfl) h (fun v7 h => ?_)
      exact G.iretW dX11_knows_30 rfl (rfl) h
-- OnlyUpward.orNever(I)I
set_option maxRecDepth 100000 in
set_option maxHeartbeats 4000000 in
def F_X11_orNever (n : Nat) (M : AM) (a0 : Int32) : Option Int32 :=
  if a0 ≤ (24 : Int32) then some a0 else some (-2 : Int32)
set_option maxRecDepth 100000 in
set_option maxHeartbeats 4000000 in
theorem C_X11_orNever {n : Nat} {M : AM} {a0 : Int32} {o : Int32} (h : F_X11_orNever n M a0 = some o) : Cn yX11_orNever cX11_orNever 1 (some .int) 0 [.int a0] M (some (.int o)) M := by
  unfold F_X11_orNever at h
  refine Cn.of rfl (Nat.le_of_ble_eq_true rfl) ?_
  show G yX11_orNever cX11_orNever 1 (some .int) 0 0 [(0, .int a0)] [] M (some (.int o)) M
  refine G.iload_n dX11_orNever_0 rfl rfl ?_
  refine G.bipush (24 : Int32) dX11_orNever_1 kb_24 ?_
  refine G.icmp_le 11 dX11_orNever_3 (by decide) h (fun c1 h => ?_) (fun c1 h => ?_)
  · refine G.iload_n dX11_orNever_11 rfl rfl ?_
    exact G.iret dX11_orNever_12 rfl (rfl) h
  · refine G.bipush (-2 : Int32) dX11_orNever_6 kb_m2 ?_
    refine G.goto 12 dX11_orNever_8 (by decide) ?_
    exact G.iret dX11_orNever_12 rfl (rfl) h
-- OnlyUpward.when(II)I
set_option maxRecDepth 100000 in
set_option maxHeartbeats 4000000 in
def F_X11_when (n : Nat) (M : AM) (a0 : Nat) (a1 : Int32) (a2 : Int32) : Option (Int32 × AM) :=
  (rcv 11 M a0 (F_X11_isOne n M a0 (1 : Int32) a1)).bind fun v1 => if v1 = 0 then some ((-1 : Int32), M) else (rcv 11 M a0 (F_X11_isOne n M a0 (2 : Int32) a2)).bind fun v3 => if v3 = 0 then some ((-1 : Int32), M) else (rcv 11 M a0 (F_X11_planCourse n M a0)).bind fun v5 => (gR 1 0 v5.2 v5.1).bind fun v6 => (rcv 3 v5.2 v6 (F_X3_firstHour n v5.2 v6 a1 a2)).bind fun v7 => (F_X11_orNever n v5.2 v7).bind fun v8 => some (v8, v5.2)
set_option maxRecDepth 100000 in
set_option maxHeartbeats 4000000 in
theorem C_X11_when {n : Nat} {M : AM} {a0 : Nat} {a1 : Int32} {a2 : Int32} {o : (Int32 × AM)} (h : F_X11_when n M a0 a1 a2 = some o) : Cn yX11_when cX11_when 3 (some .int) 7 [.ref a0, .int a1, .int a2] M (some (.int o.1)) o.2 := by
  unfold F_X11_when at h
  refine Cn.of rfl (Nat.le_of_ble_eq_true rfl) ?_
  show G yX11_when cX11_when 3 (some .int) 7 0 [(0, .ref a0), (1, .int a1), (2, .int a2)] [] M (some (.int o.1)) o.2
  refine G.aload_n dX11_when_0 rfl rfl ?_
  refine G.iconst (1 : Int32) dX11_when_1 ki_1 ?_
  refine G.iload_n dX11_when_2 rfl rfl ?_
  refine G.callVi (ci := 11) [.int (1 : Int32), .int a1] [] dX11_when_3 lkX11_141 okX11_isOne rfl (fun v hv => C_X11_isOne hv) (Nat.le_of_ble_eq_true rfl) rfl rfl (Nat.le_of_ble_eq_true rfl) h (fun v1 h => ?_)
  refine G.if_eq 18 dX11_when_6 (by decide) h (fun c2 h => ?_) (fun c2 h => ?_)
  · refine G.iconst (-1 : Int32) dX11_when_18 ki_m1 ?_
    exact G.iretW dX11_when_19 rfl (rfl) h
  · refine G.aload_n dX11_when_9 rfl rfl ?_
    refine G.iconst (2 : Int32) dX11_when_10 ki_2 ?_
    refine G.iload_n dX11_when_11 rfl rfl ?_
    refine G.callVi (ci := 11) [.int (2 : Int32), .int a2] [] dX11_when_12 lkX11_141 okX11_isOne rfl (fun v hv => C_X11_isOne hv) (Nat.le_of_ble_eq_true rfl) rfl rfl (Nat.le_of_ble_eq_true rfl) h (fun v3 h => ?_)
    refine G.if_ne 20 dX11_when_15 (by decide) h (fun c4 h => ?_) (fun c4 h => ?_)
    · refine G.iconst (-1 : Int32) dX11_when_18 ki_m1 ?_
      exact G.iretW dX11_when_19 rfl (rfl) h
    · refine G.aload_n dX11_when_20 rfl rfl ?_
      refine G.callVr (ci := 11) [] [] dX11_when_21 lkX11_189 okX11_planCourse rfl (fun v hv => C_X11_planCourse hv) (Nat.le_of_ble_eq_true rfl) rfl rfl (Nat.le_of_ble_eq_true rfl) h (fun v5 h => ?_)
      refine G.getR dX11_when_24 fkX11_222 fr1_0 h (fun v6 h => ?_)
      refine G.iload_n dX11_when_27 rfl rfl ?_
      refine G.iload_n dX11_when_28 rfl rfl ?_
      refine G.callVi (ci := 3) [.int a1, .int a2] [] dX11_when_29 lkX11_231 okX3_firstHour rfl (fun v hv => C_X3_firstHour hv) (Nat.le_of_ble_eq_true rfl) rfl rfl (Nat.le_of_ble_eq_true rfl) h (fun v7 h => ?_)
      refine G.callSi [.int v7] [] dX11_when_32 lkX11_234 okX11_orNever (fun v hv => C_X11_orNever hv) (Nat.le_of_ble_eq_true rfl) rfl rfl (Nat.le_of_ble_eq_true rfl) h (fun v8 h => ?_)
      exact G.iretW dX11_when_35 rfl (rfl) h
-- OnlyUpward$Course.seenThings(III)I
set_option maxRecDepth 100000 in
set_option maxHeartbeats 4000000 in
def F_X1_seenThings (n : Nat) (M : AM) (a0 : Nat) (a1 : Int32) (a2 : Int32) (a3 : Int32) : Option Int32 :=
  (iter (fun (s1 : Int32 × Int32) => if (6 : Int32) ≤ s1.2 then some (.inr s1.1) else (gR 1 1 M a0).bind fun v3 => (rdI M v3 ((((a1 * (10 : Int32)) + a2) * (6 : Int32)) + s1.2)).bind fun v4 => jn (fun (u5 : Int32) => some (.inl (u5, (s1.2 + (1 : Int32))))) fun j6 => if a3 < v4 then j6 s1.1 else j6 (s1.1 ||| ((1 : Int32) <<< (s1.2 &&& 31)))) n ((0 : Int32), (0 : Int32))).bind fun (e1 : Int32) => some e1
set_option maxRecDepth 100000 in
set_option maxHeartbeats 4000000 in
theorem C_X1_seenThings {n : Nat} {M : AM} {a0 : Nat} {a1 : Int32} {a2 : Int32} {a3 : Int32} {o : Int32} (h : F_X1_seenThings n M a0 a1 a2 a3 = some o) : Cn yX1_seenThings cX1_seenThings 6 (some .int) 0 [.ref a0, .int a1, .int a2, .int a3] M (some (.int o)) M := by
  unfold F_X1_seenThings at h
  refine Cn.of rfl (Nat.le_of_ble_eq_true rfl) ?_
  show G yX1_seenThings cX1_seenThings 6 (some .int) 0 0 [(0, .ref a0), (1, .int a1), (2, .int a2), (3, .int a3)] [] M (some (.int o)) M
  refine G.iconst (0 : Int32) dX1_seenThings_0 ki_0 ?_
  refine G.istore (lv' := [(4, .int (0 : Int32)), (0, .ref a0), (1, .int a1), (2, .int a2), (3, .int a3)]) dX1_seenThings_1 (Nat.le_of_ble_eq_true rfl) rfl ?_
  refine G.iconst (0 : Int32) dX1_seenThings_3 ki_0 ?_
  refine G.istore (lv' := [(5, .int (0 : Int32)), (4, .int (0 : Int32)), (0, .ref a0), (1, .int a1), (2, .int a2), (3, .int a3)]) dX1_seenThings_4 (Nat.le_of_ble_eq_true rfl) rfl ?_
  refine G.sub (lv' := [(0, .ref a0), (1, .int a1), (2, .int a2), (3, .int a3), (4, .int (0 : Int32)), (5, .int (0 : Int32))]) [2, 3, 4, 5, 1, 0] rfl ?_
  refine loopE (fun (s1 : Int32 × Int32) => G yX1_seenThings cX1_seenThings 6 (some .int) 0 6 [(0, .ref a0), (1, .int a1), (2, .int a2), (3, .int a3), (4, .int s1.1), (5, .int s1.2)] [] M (some (.int o)) M) (fun (e1 : Int32) => G yX1_seenThings cX1_seenThings 6 (some .int) 0 49 [(4, .int e1)] [] M (some (.int o)) M) h ?_ ?_
  · intro e1 h
    show G yX1_seenThings cX1_seenThings 6 (some .int) 0 49 [(4, .int e1)] [] M (some (.int o)) M
    refine G.iload dX1_seenThings_49 rfl ?_
    exact G.iret dX1_seenThings_51 rfl (rfl) h
  · intro s1 x1 h K1
    show G yX1_seenThings cX1_seenThings 6 (some .int) 0 6 [(0, .ref a0), (1, .int a1), (2, .int a2), (3, .int a3), (4, .int s1.1), (5, .int s1.2)] [] M (some (.int o)) M
    refine G.iload dX1_seenThings_6 rfl ?_
    refine G.bipush (6 : Int32) dX1_seenThings_8 kb_6 ?_
    refine G.icmp_ge 49 dX1_seenThings_10 (by decide) h (fun c2 h => ?_) (fun c2 h => ?_)
    · refine G.sub (lv' := [(4, .int s1.1)]) [4] rfl ?_
      have h := leafR' h K1
      exact h
    · refine G.aload_n dX1_seenThings_13 rfl rfl ?_
      refine G.getR dX1_seenThings_14 fkX1_18 fr1_1 h (fun v3 h => ?_)
      refine G.iload_n dX1_seenThings_17 rfl rfl ?_
      refine G.bipush (10 : Int32) dX1_seenThings_18 kb_10 ?_
      refine G.imul dX1_seenThings_20 ?_
      refine G.iload_n dX1_seenThings_21 rfl rfl ?_
      refine G.iadd dX1_seenThings_22 ?_
      refine G.bipush (6 : Int32) dX1_seenThings_23 kb_6 ?_
      refine G.imul dX1_seenThings_25 ?_
      refine G.iload dX1_seenThings_26 rfl ?_
      refine G.iadd dX1_seenThings_28 ?_
      refine G.iald dX1_seenThings_29 h (fun v4 h => ?_)
      refine G.iload_n dX1_seenThings_30 rfl rfl ?_
      refine jn_elim (fun j6 => ∀ (u5 : Int32), j6 u5 = some x1 → G yX1_seenThings cX1_seenThings 6 (some .int) 0 43 [(0, .ref a0), (1, .int a1), (2, .int a2), (3, .int a3), (4, .int u5), (5, .int s1.2)] [] M (some (.int o)) M) h ?_ ?_
      · intro u5 h
        refine G.iinc s1.2 (w := (s1.2 + (1 : Int32))) (lv' := [(5, .int (s1.2 + (1 : Int32))), (0, .ref a0), (1, .int a1), (2, .int a2), (3, .int a3), (4, .int u5)]) dX1_seenThings_43 rfl rfl (Nat.le_of_ble_eq_true rfl) rfl ?_
        refine G.goto 6 dX1_seenThings_46 (by decide) ?_
        refine G.sub (lv' := [(0, .ref a0), (1, .int a1), (2, .int a2), (3, .int a3), (4, .int u5), (5, .int (s1.2 + (1 : Int32)))]) [1, 2, 3, 4, 5, 0] rfl ?_
        have h := leafL' h K1
        exact h
      · intro j6 Jj6 h
        refine G.icmp_gt 43 dX1_seenThings_31 (by decide) h (fun c7 h => ?_) (fun c7 h => ?_)
        · refine G.sub (lv' := [(0, .ref a0), (1, .int a1), (2, .int a2), (3, .int a3), (4, .int s1.1), (5, .int s1.2)]) [0, 1, 2, 3, 4, 5] rfl ?_
          exact Jj6 _ h
        · refine G.iload dX1_seenThings_34 rfl ?_
          refine G.iconst (1 : Int32) dX1_seenThings_36 ki_1 ?_
          refine G.iload dX1_seenThings_37 rfl ?_
          refine G.ishl dX1_seenThings_39 ?_
          refine G.ior dX1_seenThings_40 ?_
          refine G.istore (lv' := [(4, .int (s1.1 ||| ((1 : Int32) <<< (s1.2 &&& 31)))), (0, .ref a0), (1, .int a1), (2, .int a2), (3, .int a3), (5, .int s1.2)]) dX1_seenThings_41 (Nat.le_of_ble_eq_true rfl) rfl ?_
          refine G.sub (lv' := [(0, .ref a0), (1, .int a1), (2, .int a2), (3, .int a3), (4, .int (s1.1 ||| ((1 : Int32) <<< (s1.2 &&& 31)))), (5, .int s1.2)]) [1, 2, 3, 4, 0, 5] rfl ?_
          exact Jj6 _ h
-- OnlyUpward.seen(III)I
set_option maxRecDepth 100000 in
set_option maxHeartbeats 4000000 in
def F_X11_seen (n : Nat) (M : AM) (a0 : Nat) (a1 : Int32) (a2 : Int32) (a3 : Int32) : Option (Int32 × AM) :=
  (rcv 11 M a0 (F_X11_areTwo n M a0 a1 a2)).bind fun v1 => if v1 = 0 then some ((-1 : Int32), M) else (F_X11_isHourOrEnd n M a3).bind fun v3 => if v3 = 0 then some ((-1 : Int32), M) else (rcv 11 M a0 (F_X11_planCourse n M a0)).bind fun v5 => (rcv 1 v5.2 v5.1 (F_X1_seenThings n v5.2 v5.1 a1 a2 a3)).bind fun v6 => some (v6, v5.2)
set_option maxRecDepth 100000 in
set_option maxHeartbeats 4000000 in
theorem C_X11_seen {n : Nat} {M : AM} {a0 : Nat} {a1 : Int32} {a2 : Int32} {a3 : Int32} {o : (Int32 × AM)} (h : F_X11_seen n M a0 a1 a2 a3 = some o) : Cn yX11_seen cX11_seen 4 (some .int) 7 [.ref a0, .int a1, .int a2, .int a3] M (some (.int o.1)) o.2 := by
  unfold F_X11_seen at h
  refine Cn.of rfl (Nat.le_of_ble_eq_true rfl) ?_
  show G yX11_seen cX11_seen 4 (some .int) 7 0 [(0, .ref a0), (1, .int a1), (2, .int a2), (3, .int a3)] [] M (some (.int o.1)) o.2
  refine G.aload_n dX11_seen_0 rfl rfl ?_
  refine G.iload_n dX11_seen_1 rfl rfl ?_
  refine G.iload_n dX11_seen_2 rfl rfl ?_
  refine G.callVi (ci := 11) [.int a1, .int a2] [] dX11_seen_3 lkX11_159 okX11_areTwo rfl (fun v hv => C_X11_areTwo hv) (Nat.le_of_ble_eq_true rfl) rfl rfl (Nat.le_of_ble_eq_true rfl) h (fun v1 h => ?_)
  refine G.if_eq 16 dX11_seen_6 (by decide) h (fun c2 h => ?_) (fun c2 h => ?_)
  · refine G.iconst (-1 : Int32) dX11_seen_16 ki_m1 ?_
    exact G.iretW dX11_seen_17 rfl (rfl) h
  · refine G.iload_n dX11_seen_9 rfl rfl ?_
    refine G.callSi [.int a3] [] dX11_seen_10 lkX11_219 okX11_isHourOrEnd (fun v hv => C_X11_isHourOrEnd hv) (Nat.le_of_ble_eq_true rfl) rfl rfl (Nat.le_of_ble_eq_true rfl) h (fun v3 h => ?_)
    refine G.if_ne 18 dX11_seen_13 (by decide) h (fun c4 h => ?_) (fun c4 h => ?_)
    · refine G.iconst (-1 : Int32) dX11_seen_16 ki_m1 ?_
      exact G.iretW dX11_seen_17 rfl (rfl) h
    · refine G.aload_n dX11_seen_18 rfl rfl ?_
      refine G.callVr (ci := 11) [] [] dX11_seen_19 lkX11_189 okX11_planCourse rfl (fun v hv => C_X11_planCourse hv) (Nat.le_of_ble_eq_true rfl) rfl rfl (Nat.le_of_ble_eq_true rfl) h (fun v5 h => ?_)
      refine G.iload_n dX11_seen_22 rfl rfl ?_
      refine G.iload_n dX11_seen_23 rfl rfl ?_
      refine G.iload_n dX11_seen_24 rfl rfl ?_
      refine G.callVi (ci := 1) [.int a1, .int a2, .int a3] [] dX11_seen_25 lkX11_237 okX1_seenThings rfl (fun v hv => C_X1_seenThings hv) (Nat.le_of_ble_eq_true rfl) rfl rfl (Nat.le_of_ble_eq_true rfl) h (fun v6 h => ?_)
      exact G.iretW dX11_seen_28 rfl (rfl) h
-- OnlyUpward.isSet(I)Z
set_option maxRecDepth 100000 in
set_option maxHeartbeats 4000000 in
def F_X11_isSet (n : Nat) (M : AM) (a0 : Nat) (a1 : Int32) : Option Int32 :=
  (gR 11 6 M a0).bind fun v1 => (gR 10 0 M v1).bind fun v2 => (rdI M v2 (1 : Int32)).bind fun v3 => if (ush a1 v3) = 0 then some (1 : Int32) else some (0 : Int32)
set_option maxRecDepth 100000 in
set_option maxHeartbeats 4000000 in
theorem C_X11_isSet {n : Nat} {M : AM} {a0 : Nat} {a1 : Int32} {o : Int32} (h : F_X11_isSet n M a0 a1 = some o) : Cn yX11_isSet cX11_isSet 2 (some .boolean) 0 [.ref a0, .int a1] M (some (.int o)) M := by
  unfold F_X11_isSet at h
  refine Cn.of rfl (Nat.le_of_ble_eq_true rfl) ?_
  show G yX11_isSet cX11_isSet 2 (some .boolean) 0 0 [(0, .ref a0), (1, .int a1)] [] M (some (.int o)) M
  refine G.iload_n dX11_isSet_0 rfl rfl ?_
  refine G.aload_n dX11_isSet_1 rfl rfl ?_
  refine G.getR dX11_isSet_2 fkX11_46 fr11_6 h (fun v1 h => ?_)
  refine G.getR dX11_isSet_5 fkX11_137 fr10_0 h (fun v2 h => ?_)
  refine G.iconst (1 : Int32) dX11_isSet_8 ki_1 ?_
  refine G.iald dX11_isSet_9 h (fun v3 h => ?_)
  refine G.iushr dX11_isSet_10 ?_
  refine G.if_ne 18 dX11_isSet_11 (by decide) h (fun c4 h => ?_) (fun c4 h => ?_)
  · refine G.iconst (1 : Int32) dX11_isSet_14 ki_1 ?_
    refine G.goto 19 dX11_isSet_15 (by decide) ?_
    exact G.iret dX11_isSet_19 rfl (by decide) h
  · refine G.iconst (0 : Int32) dX11_isSet_18 ki_0 ?_
    exact G.iret dX11_isSet_19 rfl (by decide) h
-- OnlyUpward.canSpread(III)Z
set_option maxRecDepth 100000 in
set_option maxHeartbeats 4000000 in
def F_X11_canSpread (n : Nat) (M : AM) (a0 : Nat) (a1 : Int32) (a2 : Int32) (a3 : Int32) : Option Int32 :=
  (rcv 11 M a0 (F_X11_isOne n M a0 (2 : Int32) a1)).bind fun v1 => if v1 = 0 then some (0 : Int32) else (rcv 11 M a0 (F_X11_isSet n M a0 a2)).bind fun v3 => if v3 = 0 then some (0 : Int32) else (F_X11_isHour n M a3).bind fun v5 => if v5 = 0 then some (0 : Int32) else some (1 : Int32)
set_option maxRecDepth 100000 in
set_option maxHeartbeats 4000000 in
theorem C_X11_canSpread {n : Nat} {M : AM} {a0 : Nat} {a1 : Int32} {a2 : Int32} {a3 : Int32} {o : Int32} (h : F_X11_canSpread n M a0 a1 a2 a3 = some o) : Cn yX11_canSpread cX11_canSpread 4 (some .boolean) 1 [.ref a0, .int a1, .int a2, .int a3] M (some (.int o)) M := by
  unfold F_X11_canSpread at h
  refine Cn.of rfl (Nat.le_of_ble_eq_true rfl) ?_
  show G yX11_canSpread cX11_canSpread 4 (some .boolean) 1 0 [(0, .ref a0), (1, .int a1), (2, .int a2), (3, .int a3)] [] M (some (.int o)) M
  refine G.aload_n dX11_canSpread_0 rfl rfl ?_
  refine G.iconst (2 : Int32) dX11_canSpread_1 ki_2 ?_
  refine G.iload_n dX11_canSpread_2 rfl rfl ?_
  refine G.callVi (ci := 11) [.int (2 : Int32), .int a1] [] dX11_canSpread_3 lkX11_141 okX11_isOne rfl (fun v hv => C_X11_isOne hv) (Nat.le_of_ble_eq_true rfl) rfl rfl (Nat.le_of_ble_eq_true rfl) h (fun v1 h => ?_)
  refine G.if_eq 28 dX11_canSpread_6 (by decide) h (fun c2 h => ?_) (fun c2 h => ?_)
  · refine G.iconst (0 : Int32) dX11_canSpread_28 ki_0 ?_
    exact G.iret dX11_canSpread_29 rfl (by decide) h
  · refine G.aload_n dX11_canSpread_9 rfl rfl ?_
    refine G.iload_n dX11_canSpread_10 rfl rfl ?_
    refine G.callVi (ci := 11) [.int a2] [] dX11_canSpread_11 lkX11_273 okX11_isSet rfl (fun v hv => C_X11_isSet hv) (Nat.le_of_ble_eq_true rfl) rfl rfl (Nat.le_of_ble_eq_true rfl) h (fun v3 h => ?_)
    refine G.if_eq 28 dX11_canSpread_14 (by decide) h (fun c4 h => ?_) (fun c4 h => ?_)
    · refine G.iconst (0 : Int32) dX11_canSpread_28 ki_0 ?_
      exact G.iret dX11_canSpread_29 rfl (by decide) h
    · refine G.iload_n dX11_canSpread_17 rfl rfl ?_
      refine G.callSi [.int a3] [] dX11_canSpread_18 lkX11_145 okX11_isHour (fun v hv => C_X11_isHour hv) (Nat.le_of_ble_eq_true rfl) rfl rfl (Nat.le_of_ble_eq_true rfl) h (fun v5 h => ?_)
      refine G.if_eq 28 dX11_canSpread_21 (by decide) h (fun c6 h => ?_) (fun c6 h => ?_)
      · refine G.iconst (0 : Int32) dX11_canSpread_28 ki_0 ?_
        exact G.iret dX11_canSpread_29 rfl (by decide) h
      · refine G.iconst (1 : Int32) dX11_canSpread_24 ki_1 ?_
        refine G.goto 29 dX11_canSpread_25 (by decide) ?_
        exact G.iret dX11_canSpread_29 rfl (by decide) h
-- OnlyUpward.isLaw(I)Z
set_option maxRecDepth 100000 in
set_option maxHeartbeats 4000000 in
def F_X11_isLaw (n : Nat) (M : AM) (a0 : Int32) : Option Int32 :=
  if a0 < 0 then some (0 : Int32) else if (3 : Int32) < a0 then some (0 : Int32) else some (1 : Int32)
set_option maxRecDepth 100000 in
set_option maxHeartbeats 4000000 in
theorem C_X11_isLaw {n : Nat} {M : AM} {a0 : Int32} {o : Int32} (h : F_X11_isLaw n M a0 = some o) : Cn yX11_isLaw cX11_isLaw 1 (some .boolean) 0 [.int a0] M (some (.int o)) M := by
  unfold F_X11_isLaw at h
  refine Cn.of rfl (Nat.le_of_ble_eq_true rfl) ?_
  show G yX11_isLaw cX11_isLaw 1 (some .boolean) 0 0 [(0, .int a0)] [] M (some (.int o)) M
  refine G.iload_n dX11_isLaw_0 rfl rfl ?_
  refine G.if_lt 13 dX11_isLaw_1 (by decide) h (fun c1 h => ?_) (fun c1 h => ?_)
  · refine G.iconst (0 : Int32) dX11_isLaw_13 ki_0 ?_
    exact G.iret dX11_isLaw_14 rfl (by decide) h
  · refine G.iload_n dX11_isLaw_4 rfl rfl ?_
    refine G.iconst (3 : Int32) dX11_isLaw_5 ki_3 ?_
    refine G.icmp_gt 13 dX11_isLaw_6 (by decide) h (fun c2 h => ?_) (fun c2 h => ?_)
    · refine G.iconst (0 : Int32) dX11_isLaw_13 ki_0 ?_
      exact G.iret dX11_isLaw_14 rfl (by decide) h
    · refine G.iconst (1 : Int32) dX11_isLaw_9 ki_1 ?_
      refine G.goto 14 dX11_isLaw_10 (by decide) ?_
      exact G.iret dX11_isLaw_14 rfl (by decide) h
-- OnlyUpward$Spread.isShown(LOnlyUpward$World;I)Z
set_option maxRecDepth 100000 in
set_option maxHeartbeats 4000000 in
def F_X7_isShown (n : Nat) (M : AM) (a0 : Nat) (a1 : Int32) : Option Int32 :=
  (iter (fun (s1 : Int32) => (gR 10 0 M a0).bind fun v2 => (rdI M v2 (7 : Int32)).bind fun v3 => if v3 ≤ s1 then some (.inr (.inl ())) else (gR 10 9 M a0).bind fun v5 => (rdI M v5 s1).bind fun v6 => if v6 = a1 then some (.inr (.inr (1 : Int32))) else some (.inl (s1 + (1 : Int32)))) n (0 : Int32)).bind fun (z1 : (Unit) ⊕ Int32) => Sum.elim (fun (e1 : Unit) => some (0 : Int32)) (fun (v : Int32) => some v) z1
set_option maxRecDepth 100000 in
set_option maxHeartbeats 4000000 in
theorem C_X7_isShown {n : Nat} {M : AM} {a0 : Nat} {a1 : Int32} {o : Int32} (h : F_X7_isShown n M a0 a1 = some o) : Cn yX7_isShown cX7_isShown 3 (some .boolean) 0 [.ref a0, .int a1] M (some (.int o)) M := by
  unfold F_X7_isShown at h
  refine Cn.of rfl (Nat.le_of_ble_eq_true rfl) ?_
  show G yX7_isShown cX7_isShown 3 (some .boolean) 0 0 [(0, .ref a0), (1, .int a1)] [] M (some (.int o)) M
  refine G.iconst (0 : Int32) dX7_isShown_0 ki_0 ?_
  refine G.istore_n (lv' := [(2, .int (0 : Int32)), (0, .ref a0), (1, .int a1)]) dX7_isShown_1 rfl (Nat.le_of_ble_eq_true rfl) rfl ?_
  refine G.sub (lv' := [(0, .ref a0), (1, .int a1), (2, .int (0 : Int32))]) [1, 2, 0] rfl ?_
  refine loopE (fun (s1 : Int32) => G yX7_isShown cX7_isShown 3 (some .boolean) 0 2 [(0, .ref a0), (1, .int a1), (2, .int s1)] [] M (some (.int o)) M) (fun (z1 : (Unit) ⊕ Int32) => Sum.elim (fun (e1 : Unit) => G yX7_isShown cX7_isShown 3 (some .boolean) 0 31 [] [] M (some (.int o)) M) (fun (v : Int32) => some v = some o) z1) h ?_ ?_
  · intro z1 h
    rcases z1 with e1 | v
    · have h := sum_inl h
      show G yX7_isShown cX7_isShown 3 (some .boolean) 0 31 [] [] M (some (.int o)) M
      refine G.iconst (0 : Int32) dX7_isShown_31 ki_0 ?_
      exact G.iret dX7_isShown_32 rfl (by decide) h
    · have h := sum_inr h
      exact h
  · intro s1 x1 h K1
    show G yX7_isShown cX7_isShown 3 (some .boolean) 0 2 [(0, .ref a0), (1, .int a1), (2, .int s1)] [] M (some (.int o)) M
    refine G.iload_n dX7_isShown_2 rfl rfl ?_
    refine G.aload_n dX7_isShown_3 rfl rfl ?_
    refine G.getR dX7_isShown_4 fkX7_47 fr10_0 h (fun v2 h => ?_)
    refine G.bipush (7 : Int32) dX7_isShown_7 kb_7 ?_
    refine G.iald dX7_isShown_9 h (fun v3 h => ?_)
    refine G.icmp_ge 31 dX7_isShown_10 (by decide) h (fun c4 h => ?_) (fun c4 h => ?_)
    · refine G.sub (lv' := []) [] rfl ?_
      have h := leafR' h K1
      exact h
    · refine G.aload_n dX7_isShown_13 rfl rfl ?_
      refine G.getR dX7_isShown_14 fkX7_50 fr10_9 h (fun v5 h => ?_)
      refine G.iload_n dX7_isShown_17 rfl rfl ?_
      refine G.iald dX7_isShown_18 h (fun v6 h => ?_)
      refine G.iload_n dX7_isShown_19 rfl rfl ?_
      refine G.icmp_ne 25 dX7_isShown_20 (by decide) h (fun c7 h => ?_) (fun c7 h => ?_)
      · refine G.iconst (1 : Int32) dX7_isShown_23 ki_1 ?_
        have h := leafR' h K1
        exact G.iret dX7_isShown_24 rfl (by decide) h
      · refine G.iinc s1 (w := (s1 + (1 : Int32))) (lv' := [(2, .int (s1 + (1 : Int32))), (0, .ref a0), (1, .int a1)]) dX7_isShown_25 rfl rfl (Nat.le_of_ble_eq_true rfl) rfl ?_
        refine G.goto 2 dX7_isShown_28 (by decide) ?_
        refine G.sub (lv' := [(0, .ref a0), (1, .int a1), (2, .int (s1 + (1 : Int32)))]) [1, 2, 0] rfl ?_
        have h := leafL' h K1
        exact h
-- OnlyUpward$Spread.note(II)V
set_option maxRecDepth 100000 in
set_option maxHeartbeats 4000000 in
def F_X7_note (n : Nat) (M : AM) (a0 : Nat) (a1 : Int32) (a2 : Int32) : Option AM :=
  (iter (fun (s1 : Int32 × AM) => if (10 : Int32) ≤ s1.1 then some (.inr s1.2) else (F_X11_hasBit n s1.2 a1 s1.1).bind fun v3 => jn (fun (M4 : AM) => some (.inl ((s1.1 + (1 : Int32)), M4))) fun j5 => if v3 = 0 then j5 s1.2 else (gR 7 0 s1.2 a0).bind fun v7 => (wrI s1.2 v7 s1.1 a2).bind fun M8 => j5 M8) n ((0 : Int32), M)).bind fun (e1 : AM) => some e1
set_option maxRecDepth 100000 in
set_option maxHeartbeats 4000000 in
theorem C_X7_note {n : Nat} {M : AM} {a0 : Nat} {a1 : Int32} {a2 : Int32} {o : AM} (h : F_X7_note n M a0 a1 a2 = some o) : Cn yX7_note cX7_note 4 none 1 [.ref a0, .int a1, .int a2] M none o := by
  unfold F_X7_note at h
  refine Cn.of rfl (Nat.le_of_ble_eq_true rfl) ?_
  show G yX7_note cX7_note 4 none 1 0 [(0, .ref a0), (1, .int a1), (2, .int a2)] [] M none o
  refine G.iconst (0 : Int32) dX7_note_0 ki_0 ?_
  refine G.istore_n (lv' := [(3, .int (0 : Int32)), (0, .ref a0), (1, .int a1), (2, .int a2)]) dX7_note_1 rfl (Nat.le_of_ble_eq_true rfl) rfl ?_
  refine G.sub (lv' := [(0, .ref a0), (1, .int a1), (2, .int a2), (3, .int (0 : Int32))]) [1, 2, 3, 0] rfl ?_
  refine loopE (fun (s1 : Int32 × AM) => G yX7_note cX7_note 4 none 1 2 [(0, .ref a0), (1, .int a1), (2, .int a2), (3, .int s1.1)] [] s1.2 none o) (fun (e1 : AM) => G yX7_note cX7_note 4 none 1 29 [] [] e1 none o) h ?_ ?_
  · intro e1 h
    show G yX7_note cX7_note 4 none 1 29 [] [] e1 none o
    exact G.vretW dX7_note_29 rfl h
  · intro s1 x1 h K1
    show G yX7_note cX7_note 4 none 1 2 [(0, .ref a0), (1, .int a1), (2, .int a2), (3, .int s1.1)] [] s1.2 none o
    refine G.iload_n dX7_note_2 rfl rfl ?_
    refine G.bipush (10 : Int32) dX7_note_3 kb_10 ?_
    refine G.icmp_ge 29 dX7_note_5 (by decide) h (fun c2 h => ?_) (fun c2 h => ?_)
    · refine G.sub (lv' := []) [] rfl ?_
      have h := leafR' h K1
      exact h
    · refine G.iload_n dX7_note_8 rfl rfl ?_
      refine G.iload_n dX7_note_9 rfl rfl ?_
      refine G.callSi [.int a1, .int s1.1] [] dX7_note_10 lkX7_43 okX11_hasBit (fun v hv => C_X11_hasBit hv) (Nat.le_of_ble_eq_true rfl) rfl rfl (Nat.le_of_ble_eq_true rfl) h (fun v3 h => ?_)
      refine jn_elim (fun j5 => ∀ (M4 : AM), j5 M4 = some x1 → G yX7_note cX7_note 4 none 1 23 [(0, .ref a0), (1, .int a1), (2, .int a2), (3, .int s1.1)] [] M4 none o) h ?_ ?_
      · intro M4 h
        refine G.iinc s1.1 (w := (s1.1 + (1 : Int32))) (lv' := [(3, .int (s1.1 + (1 : Int32))), (0, .ref a0), (1, .int a1), (2, .int a2)]) dX7_note_23 rfl rfl (Nat.le_of_ble_eq_true rfl) rfl ?_
        refine G.goto 2 dX7_note_26 (by decide) ?_
        refine G.sub (lv' := [(0, .ref a0), (1, .int a1), (2, .int a2), (3, .int (s1.1 + (1 : Int32)))]) [1, 2, 3, 0] rfl ?_
        have h := leafL' h K1
        exact h
      · intro j5 Jj5 h
        refine G.if_eq 23 dX7_note_13 (by decide) h (fun c6 h => ?_) (fun c6 h => ?_)
        · refine G.sub (lv' := [(0, .ref a0), (1, .int a1), (2, .int a2), (3, .int s1.1)]) [0, 1, 2, 3] rfl ?_
          exact Jj5 _ h
        · refine G.aload_n dX7_note_16 rfl rfl ?_
          refine G.getR dX7_note_17 fkX7_9 fr7_0 h (fun v7 h => ?_)
          refine G.iload_n dX7_note_20 rfl rfl ?_
          refine G.iload_n dX7_note_21 rfl rfl ?_
          refine G.iast dX7_note_22 h (fun M8 h => ?_)
          refine G.sub (lv' := [(0, .ref a0), (1, .int a1), (2, .int a2), (3, .int s1.1)]) [0, 1, 2, 3] rfl ?_
          exact Jj5 _ h
-- OnlyUpward$World.sayTo(II)I
set_option maxRecDepth 100000 in
set_option maxHeartbeats 4000000 in
def F_X10_sayTo (n : Nat) (M : AM) (a0 : Nat) (a1 : Int32) (a2 : Int32) : Option Int32 :=
  (gR 10 16 M a0).bind fun v1 => (rdI M v1 ((a1 * (24 : Int32)) + a2)).bind fun v2 => some v2
set_option maxRecDepth 100000 in
set_option maxHeartbeats 4000000 in
theorem C_X10_sayTo {n : Nat} {M : AM} {a0 : Nat} {a1 : Int32} {a2 : Int32} {o : Int32} (h : F_X10_sayTo n M a0 a1 a2 = some o) : Cn yX10_sayTo cX10_sayTo 3 (some .int) 0 [.ref a0, .int a1, .int a2] M (some (.int o)) M := by
  unfold F_X10_sayTo at h
  refine Cn.of rfl (Nat.le_of_ble_eq_true rfl) ?_
  show G yX10_sayTo cX10_sayTo 3 (some .int) 0 0 [(0, .ref a0), (1, .int a1), (2, .int a2)] [] M (some (.int o)) M
  refine G.aload_n dX10_sayTo_0 rfl rfl ?_
  refine G.getR dX10_sayTo_1 fkX10_64 fr10_16 h (fun v1 h => ?_)
  refine G.iload_n dX10_sayTo_4 rfl rfl ?_
  refine G.bipush (24 : Int32) dX10_sayTo_5 kb_24 ?_
  refine G.imul dX10_sayTo_7 ?_
  refine G.iload_n dX10_sayTo_8 rfl rfl ?_
  refine G.iadd dX10_sayTo_9 ?_
  refine G.iald dX10_sayTo_10 h (fun v2 h => ?_)
  exact G.iret dX10_sayTo_11 rfl (rfl) h
-- OnlyUpward$Spread.speaks(LOnlyUpward$World;III)Z
set_option maxRecDepth 100000 in
set_option maxHeartbeats 4000000 in
def F_X7_speaks (n : Nat) (M : AM) (a0 : Nat) (a1 : Int32) (a2 : Int32) (a3 : Int32) : Option Int32 :=
  if a3 = 0 then (rcv 10 M a0 (F_X10_sayTo n M a0 a1 a2)).bind fun v2 => if v2 = 0 then some (0 : Int32) else some (1 : Int32) else (rcv 10 M a0 (F_X10_placeOf n M a0 a1 a2)).bind fun v4 => (rcv 10 M a0 (F_X10_standers n M a0 v4 a2)).bind fun v5 => lets (v5 &&& (((1 : Int32) <<< (a1 &&& 31)) ^^^ (-1 : Int32))) fun (w6 : Int32) => if a3 = (1 : Int32) then (iter (fun (s8 : Int32) => (gR 10 0 M a0).bind fun v9 => (rdI M v9 (1 : Int32)).bind fun v10 => if v10 ≤ s8 then some (.inr (.inl ())) else (F_X11_hasBit n M w6 s8).bind fun v12 => jn (some (.inl (s8 + (1 : Int32)))) fun j13 => if v12 = 0 then j13 else (rcv 10 M a0 (F_X10_ageAt n M a0 s8 a2)).bind fun v15 => (rcv 10 M a0 (F_X10_ageAt n M a0 a1 a2)).bind fun v16 => if v16 < v15 then j13 else some (.inr (.inr (1 : Int32)))) n (0 : Int32)).bind fun (z8 : (Unit) ⊕ Int32) => Sum.elim (fun (e8 : Unit) => some (0 : Int32)) (fun (v : Int32) => some v) z8 else if a3 = (2 : Int32) then if w6 = 0 then some (0 : Int32) else some (1 : Int32) else some (0 : Int32)
set_option maxRecDepth 100000 in
set_option maxHeartbeats 4000000 in
theorem C_X7_speaks {n : Nat} {M : AM} {a0 : Nat} {a1 : Int32} {a2 : Int32} {a3 : Int32} {o : Int32} (h : F_X7_speaks n M a0 a1 a2 a3 = some o) : Cn yX7_speaks cX7_speaks 6 (some .boolean) 1 [.ref a0, .int a1, .int a2, .int a3] M (some (.int o)) M := by
  unfold F_X7_speaks at h
  refine Cn.of rfl (Nat.le_of_ble_eq_true rfl) ?_
  show G yX7_speaks cX7_speaks 6 (some .boolean) 1 0 [(0, .ref a0), (1, .int a1), (2, .int a2), (3, .int a3)] [] M (some (.int o)) M
  refine G.iload_n dX7_speaks_0 rfl rfl ?_
  refine G.if_ne 19 dX7_speaks_1 (by decide) h (fun c1 h => ?_) (fun c1 h => ?_)
  · refine G.aload_n dX7_speaks_4 rfl rfl ?_
    refine G.iload_n dX7_speaks_5 rfl rfl ?_
    refine G.iload_n dX7_speaks_6 rfl rfl ?_
    refine G.callVi (ci := 10) [.int a1, .int a2] [] dX7_speaks_7 lkX7_66 okX10_sayTo rfl (fun v hv => C_X10_sayTo hv) (Nat.le_of_ble_eq_true rfl) rfl rfl (Nat.le_of_ble_eq_true rfl) h (fun v2 h => ?_)
    refine G.if_eq 17 dX7_speaks_10 (by decide) h (fun c3 h => ?_) (fun c3 h => ?_)
    · refine G.iconst (0 : Int32) dX7_speaks_17 ki_0 ?_
      exact G.iret dX7_speaks_18 rfl (by decide) h
    · refine G.iconst (1 : Int32) dX7_speaks_13 ki_1 ?_
      refine G.goto 18 dX7_speaks_14 (by decide) ?_
      exact G.iret dX7_speaks_18 rfl (by decide) h
  · refine G.aload_n dX7_speaks_19 rfl rfl ?_
    refine G.aload_n dX7_speaks_20 rfl rfl ?_
    refine G.iload_n dX7_speaks_21 rfl rfl ?_
    refine G.iload_n dX7_speaks_22 rfl rfl ?_
    refine G.callVi (ci := 10) [.int a1, .int a2] [.ref a0] dX7_speaks_23 lkX7_53 okX10_placeOf rfl (fun v hv => C_X10_placeOf hv) (Nat.le_of_ble_eq_true rfl) rfl rfl (Nat.le_of_ble_eq_true rfl) h (fun v4 h => ?_)
    refine G.iload_n dX7_speaks_26 rfl rfl ?_
    refine G.callVi (ci := 10) [.int v4, .int a2] [] dX7_speaks_27 lkX7_63 okX10_standers rfl (fun v hv => C_X10_standers hv) (Nat.le_of_ble_eq_true rfl) rfl rfl (Nat.le_of_ble_eq_true rfl) h (fun v5 h => ?_)
    refine G.iconst (1 : Int32) dX7_speaks_30 ki_1 ?_
    refine G.iload_n dX7_speaks_31 rfl rfl ?_
    refine G.ishl dX7_speaks_32 ?_
    refine G.iconst (-1 : Int32) dX7_speaks_33 ki_m1 ?_
    refine G.ixor dX7_speaks_34 ?_
    refine G.iand dX7_speaks_35 ?_
    refine lets_elim h (fun w6 ew6 h => ?_)
    rw [← ew6]
    refine G.istore (lv' := [(4, .int w6), (0, .ref a0), (1, .int a1), (2, .int a2), (3, .int a3)]) dX7_speaks_36 (Nat.le_of_ble_eq_true rfl) rfl ?_
    refine G.iload_n dX7_speaks_38 rfl rfl ?_
    refine G.iconst (1 : Int32) dX7_speaks_39 ki_1 ?_
    refine G.icmp_eq 59 dX7_speaks_40 (by decide) h (fun c7 h => ?_) (fun c7 h => ?_)
    · refine G.iconst (0 : Int32) dX7_speaks_59 ki_0 ?_
      refine G.istore (lv' := [(5, .int (0 : Int32)), (4, .int w6), (0, .ref a0), (1, .int a1), (2, .int a2), (3, .int a3)]) dX7_speaks_60 (Nat.le_of_ble_eq_true rfl) rfl ?_
      refine G.sub (lv' := [(0, .ref a0), (1, .int a1), (2, .int a2), (4, .int w6), (5, .int (0 : Int32))]) [2, 3, 4, 1, 0] rfl ?_
      refine loopE (fun (s8 : Int32) => G yX7_speaks cX7_speaks 6 (some .boolean) 1 62 [(0, .ref a0), (1, .int a1), (2, .int a2), (4, .int w6), (5, .int s8)] [] M (some (.int o)) M) (fun (z8 : (Unit) ⊕ Int32) => Sum.elim (fun (e8 : Unit) => G yX7_speaks cX7_speaks 6 (some .boolean) 1 107 [] [] M (some (.int o)) M) (fun (v : Int32) => some v = some o) z8) h ?_ ?_
      · intro z8 h
        rcases z8 with e8 | v
        · have h := sum_inl h
          show G yX7_speaks cX7_speaks 6 (some .boolean) 1 107 [] [] M (some (.int o)) M
          refine G.iconst (0 : Int32) dX7_speaks_107 ki_0 ?_
          exact G.iret dX7_speaks_108 rfl (by decide) h
        · have h := sum_inr h
          exact h
      · intro s8 x8 h K8
        show G yX7_speaks cX7_speaks 6 (some .boolean) 1 62 [(0, .ref a0), (1, .int a1), (2, .int a2), (4, .int w6), (5, .int s8)] [] M (some (.int o)) M
        refine G.iload dX7_speaks_62 rfl ?_
        refine G.aload_n dX7_speaks_64 rfl rfl ?_
        refine G.getR dX7_speaks_65 fkX7_47 fr10_0 h (fun v9 h => ?_)
        refine G.iconst (1 : Int32) dX7_speaks_68 ki_1 ?_
        refine G.iald dX7_speaks_69 h (fun v10 h => ?_)
        refine G.icmp_ge 107 dX7_speaks_70 (by decide) h (fun c11 h => ?_) (fun c11 h => ?_)
        · refine G.sub (lv' := []) [] rfl ?_
          have h := leafR' h K8
          exact h
        · refine G.iload dX7_speaks_73 rfl ?_
          refine G.iload dX7_speaks_75 rfl ?_
          refine G.callSi [.int w6, .int s8] [] dX7_speaks_77 lkX7_43 okX11_hasBit (fun v hv => C_X11_hasBit hv) (Nat.le_of_ble_eq_true rfl) rfl rfl (Nat.le_of_ble_eq_true rfl) h (fun v12 h => ?_)
          refine jn_elim (fun j13 => j13 = some x8 → G yX7_speaks cX7_speaks 6 (some .boolean) 1 101 [(0, .ref a0), (1, .int a1), (2, .int a2), (4, .int w6), (5, .int s8)] [] M (some (.int o)) M) h ?_ ?_
          · intro h
            refine G.iinc s8 (w := (s8 + (1 : Int32))) (lv' := [(5, .int (s8 + (1 : Int32))), (0, .ref a0), (1, .int a1), (2, .int a2), (4, .int w6)]) dX7_speaks_101 rfl rfl (Nat.le_of_ble_eq_true rfl) rfl ?_
            refine G.goto 62 dX7_speaks_104 (by decide) ?_
            refine G.sub (lv' := [(0, .ref a0), (1, .int a1), (2, .int a2), (4, .int w6), (5, .int (s8 + (1 : Int32)))]) [1, 2, 3, 4, 0] rfl ?_
            have h := leafL' h K8
            exact h
          · intro j13 Jj13 h
            refine G.if_eq 101 dX7_speaks_80 (by decide) h (fun c14 h => ?_) (fun c14 h => ?_)
            · refine G.sub (lv' := [(0, .ref a0), (1, .int a1), (2, .int a2), (4, .int w6), (5, .int s8)]) [0, 1, 2, 3, 4] rfl ?_
              exact Jj13  h
            · refine G.aload_n dX7_speaks_83 rfl rfl ?_
              refine G.iload dX7_speaks_84 rfl ?_
              refine G.iload_n dX7_speaks_86 rfl rfl ?_
              refine G.callVi (ci := 10) [.int s8, .int a2] [] dX7_speaks_87 lkX7_69 okX10_ageAt rfl (fun v hv => C_X10_ageAt hv) (Nat.le_of_ble_eq_true rfl) rfl rfl (Nat.le_of_ble_eq_true rfl) h (fun v15 h => ?_)
              refine G.aload_n dX7_speaks_90 rfl rfl ?_
              refine G.iload_n dX7_speaks_91 rfl rfl ?_
              refine G.iload_n dX7_speaks_92 rfl rfl ?_
              refine G.callVi (ci := 10) [.int a1, .int a2] [.int v15] dX7_speaks_93 lkX7_69 okX10_ageAt rfl (fun v hv => C_X10_ageAt hv) (Nat.le_of_ble_eq_true rfl) rfl rfl (Nat.le_of_ble_eq_true rfl) h (fun v16 h => ?_)
              refine G.icmp_gt 101 dX7_speaks_96 (by decide) h (fun c17 h => ?_) (fun c17 h => ?_)
              · refine G.sub (lv' := [(0, .ref a0), (1, .int a1), (2, .int a2), (4, .int w6), (5, .int s8)]) [0, 1, 2, 3, 4] rfl ?_
                exact Jj13  h
              · refine G.iconst (1 : Int32) dX7_speaks_99 ki_1 ?_
                have h := leafR' h K8
                exact G.iret dX7_speaks_100 rfl (by decide) h
    · refine G.iload_n dX7_speaks_43 rfl rfl ?_
      refine G.iconst (2 : Int32) dX7_speaks_44 ki_2 ?_
      refine G.icmp_ne 57 dX7_speaks_45 (by decide) h (fun c18 h => ?_) (fun c18 h => ?_)
      · refine G.iload dX7_speaks_48 rfl ?_
        refine G.if_eq 57 dX7_speaks_50 (by decide) h (fun c19 h => ?_) (fun c19 h => ?_)
        · refine G.iconst (0 : Int32) dX7_speaks_57 ki_0 ?_
          exact G.iret dX7_speaks_58 rfl (by decide) h
        · refine G.iconst (1 : Int32) dX7_speaks_53 ki_1 ?_
          refine G.goto 58 dX7_speaks_54 (by decide) ?_
          exact G.iret dX7_speaks_58 rfl (by decide) h
      · refine G.iconst (0 : Int32) dX7_speaks_57 ki_0 ?_
        exact G.iret dX7_speaks_58 rfl (by decide) h
-- OnlyUpward$Spread.toldOrShown(LOnlyUpward$World;IIIZ)I
set_option maxRecDepth 100000 in
set_option maxHeartbeats 4000000 in
def F_X7_toldOrShown (n : Nat) (M : AM) (a0 : Nat) (a1 : Int32) (a2 : Int32) (a3 : Int32) (a4 : Int32) : Option Int32 :=
  (iter (fun (s1 : Int32 × Int32) => (gR 10 0 M a0).bind fun v2 => (rdI M v2 (1 : Int32)).bind fun v3 => if v3 ≤ s1.2 then some (.inr s1.1) else (F_X11_hasBit n M a1 s1.2).bind fun v5 => jn (fun (u6 : Int32) => some (.inl (u6, (s1.2 + (1 : Int32))))) fun j7 => if v5 = 0 then j7 s1.1 else (rcv 10 M a0 (F_X10_placeOf n M a0 s1.2 a2)).bind fun v9 => (F_X7_speaks n M a0 s1.2 a2 a3).bind fun v10 => jn (fun (u11 : Int32) => jn (fun (u12 : Int32) => j7 ((s1.1 ||| u11) ||| u12)) fun j13 => if a4 = 0 then j13 (0 : Int32) else (rcv 10 M a0 (F_X10_standers n M a0 v9 a2)).bind fun v15 => j13 v15) fun j16 => if v10 = 0 then j16 (0 : Int32) else (rcv 10 M a0 (F_X10_hearers n M a0 v9 a2)).bind fun v18 => j16 v18) n ((0 : Int32), (0 : Int32))).bind fun (e1 : Int32) => some e1
set_option maxRecDepth 100000 in
set_option maxHeartbeats 4000000 in
theorem C_X7_toldOrShown {n : Nat} {M : AM} {a0 : Nat} {a1 : Int32} {a2 : Int32} {a3 : Int32} {a4 : Int32} {o : Int32} (h : F_X7_toldOrShown n M a0 a1 a2 a3 a4 = some o) : Cn yX7_toldOrShown cX7_toldOrShown 8 (some .int) 2 [.ref a0, .int a1, .int a2, .int a3, .int a4] M (some (.int o)) M := by
  unfold F_X7_toldOrShown at h
  refine Cn.of rfl (Nat.le_of_ble_eq_true rfl) ?_
  show G yX7_toldOrShown cX7_toldOrShown 8 (some .int) 2 0 [(0, .ref a0), (1, .int a1), (2, .int a2), (3, .int a3), (4, .int a4)] [] M (some (.int o)) M
  refine G.iconst (0 : Int32) dX7_toldOrShown_0 ki_0 ?_
  refine G.istore (lv' := [(5, .int (0 : Int32)), (0, .ref a0), (1, .int a1), (2, .int a2), (3, .int a3), (4, .int a4)]) dX7_toldOrShown_1 (Nat.le_of_ble_eq_true rfl) rfl ?_
  refine G.iconst (0 : Int32) dX7_toldOrShown_3 ki_0 ?_
  refine G.istore (lv' := [(6, .int (0 : Int32)), (5, .int (0 : Int32)), (0, .ref a0), (1, .int a1), (2, .int a2), (3, .int a3), (4, .int a4)]) dX7_toldOrShown_4 (Nat.le_of_ble_eq_true rfl) rfl ?_
  refine G.sub (lv' := [(0, .ref a0), (1, .int a1), (2, .int a2), (3, .int a3), (4, .int a4), (5, .int (0 : Int32)), (6, .int (0 : Int32))]) [2, 3, 4, 5, 6, 1, 0] rfl ?_
  refine loopE (fun (s1 : Int32 × Int32) => G yX7_toldOrShown cX7_toldOrShown 8 (some .int) 2 6 [(0, .ref a0), (1, .int a1), (2, .int a2), (3, .int a3), (4, .int a4), (5, .int s1.1), (6, .int s1.2)] [] M (some (.int o)) M) (fun (e1 : Int32) => G yX7_toldOrShown cX7_toldOrShown 8 (some .int) 2 89 [(5, .int e1)] [] M (some (.int o)) M) h ?_ ?_
  · intro e1 h
    show G yX7_toldOrShown cX7_toldOrShown 8 (some .int) 2 89 [(5, .int e1)] [] M (some (.int o)) M
    refine G.iload dX7_toldOrShown_89 rfl ?_
    exact G.iret dX7_toldOrShown_91 rfl (rfl) h
  · intro s1 x1 h K1
    show G yX7_toldOrShown cX7_toldOrShown 8 (some .int) 2 6 [(0, .ref a0), (1, .int a1), (2, .int a2), (3, .int a3), (4, .int a4), (5, .int s1.1), (6, .int s1.2)] [] M (some (.int o)) M
    refine G.iload dX7_toldOrShown_6 rfl ?_
    refine G.aload_n dX7_toldOrShown_8 rfl rfl ?_
    refine G.getR dX7_toldOrShown_9 fkX7_47 fr10_0 h (fun v2 h => ?_)
    refine G.iconst (1 : Int32) dX7_toldOrShown_12 ki_1 ?_
    refine G.iald dX7_toldOrShown_13 h (fun v3 h => ?_)
    refine G.icmp_ge 89 dX7_toldOrShown_14 (by decide) h (fun c4 h => ?_) (fun c4 h => ?_)
    · refine G.sub (lv' := [(5, .int s1.1)]) [5] rfl ?_
      have h := leafR' h K1
      exact h
    · refine G.iload_n dX7_toldOrShown_17 rfl rfl ?_
      refine G.iload dX7_toldOrShown_18 rfl ?_
      refine G.callSi [.int a1, .int s1.2] [] dX7_toldOrShown_20 lkX7_43 okX11_hasBit (fun v hv => C_X11_hasBit hv) (Nat.le_of_ble_eq_true rfl) rfl rfl (Nat.le_of_ble_eq_true rfl) h (fun v5 h => ?_)
      refine jn_elim (fun j7 => ∀ (u6 : Int32), j7 u6 = some x1 → G yX7_toldOrShown cX7_toldOrShown 8 (some .int) 2 83 [(0, .ref a0), (1, .int a1), (2, .int a2), (3, .int a3), (4, .int a4), (5, .int u6), (6, .int s1.2)] [] M (some (.int o)) M) h ?_ ?_
      · intro u6 h
        refine G.iinc s1.2 (w := (s1.2 + (1 : Int32))) (lv' := [(6, .int (s1.2 + (1 : Int32))), (0, .ref a0), (1, .int a1), (2, .int a2), (3, .int a3), (4, .int a4), (5, .int u6)]) dX7_toldOrShown_83 rfl rfl (Nat.le_of_ble_eq_true rfl) rfl ?_
        refine G.goto 6 dX7_toldOrShown_86 (by decide) ?_
        refine G.sub (lv' := [(0, .ref a0), (1, .int a1), (2, .int a2), (3, .int a3), (4, .int a4), (5, .int u6), (6, .int (s1.2 + (1 : Int32)))]) [1, 2, 3, 4, 5, 6, 0] rfl ?_
        have h := leafL' h K1
        exact h
      · intro j7 Jj7 h
        refine G.if_eq 83 dX7_toldOrShown_23 (by decide) h (fun c8 h => ?_) (fun c8 h => ?_)
        · refine G.sub (lv' := [(0, .ref a0), (1, .int a1), (2, .int a2), (3, .int a3), (4, .int a4), (5, .int s1.1), (6, .int s1.2)]) [0, 1, 2, 3, 4, 5, 6] rfl ?_
          exact Jj7 _ h
        · refine G.aload_n dX7_toldOrShown_26 rfl rfl ?_
          refine G.iload dX7_toldOrShown_27 rfl ?_
          refine G.iload_n dX7_toldOrShown_29 rfl rfl ?_
          refine G.callVi (ci := 10) [.int s1.2, .int a2] [] dX7_toldOrShown_30 lkX7_53 okX10_placeOf rfl (fun v hv => C_X10_placeOf hv) (Nat.le_of_ble_eq_true rfl) rfl rfl (Nat.le_of_ble_eq_true rfl) h (fun v9 h => ?_)
          refine G.istore (lv' := [(7, .int v9), (0, .ref a0), (1, .int a1), (2, .int a2), (3, .int a3), (4, .int a4), (5, .int s1.1), (6, .int s1.2)]) dX7_toldOrShown_33 (Nat.le_of_ble_eq_true rfl) rfl ?_
          refine G.iload dX7_toldOrShown_35 rfl ?_
          refine G.aload_n dX7_toldOrShown_37 rfl rfl ?_
          refine G.iload dX7_toldOrShown_38 rfl ?_
          refine G.iload_n dX7_toldOrShown_40 rfl rfl ?_
          refine G.iload_n dX7_toldOrShown_41 rfl rfl ?_
          refine G.callSi [.ref a0, .int s1.2, .int a2, .int a3] [.int s1.1] dX7_toldOrShown_42 lkX7_56 okX7_speaks (fun v hv => C_X7_speaks hv) (Nat.le_of_ble_eq_true rfl) rfl rfl (Nat.le_of_ble_eq_true rfl) h (fun v10 h => ?_)
          refine jn_elim (fun j16 => ∀ (u11 : Int32), j16 u11 = some x1 → G yX7_toldOrShown cX7_toldOrShown 8 (some .int) 2 59 [(0, .ref a0), (1, .int a1), (2, .int a2), (3, .int a3), (4, .int a4), (6, .int s1.2), (7, .int v9)] [.int u11, .int s1.1] M (some (.int o)) M) h ?_ ?_
          · intro u11 h
            refine G.ior dX7_toldOrShown_59 ?_
            refine G.istore (lv' := [(5, .int (s1.1 ||| u11)), (0, .ref a0), (1, .int a1), (2, .int a2), (3, .int a3), (4, .int a4), (6, .int s1.2), (7, .int v9)]) dX7_toldOrShown_60 (Nat.le_of_ble_eq_true rfl) rfl ?_
            refine G.iload dX7_toldOrShown_62 rfl ?_
            refine G.iload dX7_toldOrShown_64 rfl ?_
            refine jn_elim (fun j13 => ∀ (u12 : Int32), j13 u12 = some x1 → G yX7_toldOrShown cX7_toldOrShown 8 (some .int) 2 80 [(0, .ref a0), (1, .int a1), (2, .int a2), (3, .int a3), (4, .int a4), (6, .int s1.2)] [.int u12, .int (s1.1 ||| u11)] M (some (.int o)) M) h ?_ ?_
            · intro u12 h
              refine G.ior dX7_toldOrShown_80 ?_
              refine G.istore (lv' := [(5, .int ((s1.1 ||| u11) ||| u12)), (0, .ref a0), (1, .int a1), (2, .int a2), (3, .int a3), (4, .int a4), (6, .int s1.2)]) dX7_toldOrShown_81 (Nat.le_of_ble_eq_true rfl) rfl ?_
              refine G.sub (lv' := [(0, .ref a0), (1, .int a1), (2, .int a2), (3, .int a3), (4, .int a4), (5, .int ((s1.1 ||| u11) ||| u12)), (6, .int s1.2)]) [1, 2, 3, 4, 5, 0, 6] rfl ?_
              exact Jj7 _ h
            · intro j13 Jj13 h
              refine G.if_eq 79 dX7_toldOrShown_66 (by decide) h (fun c14 h => ?_) (fun c14 h => ?_)
              · refine G.iconst (0 : Int32) dX7_toldOrShown_79 ki_0 ?_
                refine G.sub (lv' := [(0, .ref a0), (1, .int a1), (2, .int a2), (3, .int a3), (4, .int a4), (6, .int s1.2)]) [1, 2, 3, 4, 5, 6] rfl ?_
                exact Jj13 _ h
              · refine G.aload_n dX7_toldOrShown_69 rfl rfl ?_
                refine G.iload dX7_toldOrShown_70 rfl ?_
                refine G.iload_n dX7_toldOrShown_72 rfl rfl ?_
                refine G.callVi (ci := 10) [.int v9, .int a2] [.int (s1.1 ||| u11)] dX7_toldOrShown_73 lkX7_63 okX10_standers rfl (fun v hv => C_X10_standers hv) (Nat.le_of_ble_eq_true rfl) rfl rfl (Nat.le_of_ble_eq_true rfl) h (fun v15 h => ?_)
                refine G.goto 80 dX7_toldOrShown_76 (by decide) ?_
                refine G.sub (lv' := [(0, .ref a0), (1, .int a1), (2, .int a2), (3, .int a3), (4, .int a4), (6, .int s1.2)]) [1, 2, 3, 4, 5, 6] rfl ?_
                exact Jj13 _ h
          · intro j16 Jj16 h
            refine G.if_eq 58 dX7_toldOrShown_45 (by decide) h (fun c17 h => ?_) (fun c17 h => ?_)
            · refine G.iconst (0 : Int32) dX7_toldOrShown_58 ki_0 ?_
              refine G.sub (lv' := [(0, .ref a0), (1, .int a1), (2, .int a2), (3, .int a3), (4, .int a4), (6, .int s1.2), (7, .int v9)]) [1, 2, 3, 4, 5, 7, 0] rfl ?_
              exact Jj16 _ h
            · refine G.aload_n dX7_toldOrShown_48 rfl rfl ?_
              refine G.iload dX7_toldOrShown_49 rfl ?_
              refine G.iload_n dX7_toldOrShown_51 rfl rfl ?_
              refine G.callVi (ci := 10) [.int v9, .int a2] [.int s1.1] dX7_toldOrShown_52 lkX7_60 okX10_hearers rfl (fun v hv => C_X10_hearers hv) (Nat.le_of_ble_eq_true rfl) rfl rfl (Nat.le_of_ble_eq_true rfl) h (fun v18 h => ?_)
              refine G.goto 59 dX7_toldOrShown_55 (by decide) ?_
              refine G.sub (lv' := [(0, .ref a0), (1, .int a1), (2, .int a2), (3, .int a3), (4, .int a4), (6, .int s1.2), (7, .int v9)]) [1, 2, 3, 4, 5, 7, 0] rfl ?_
              exact Jj16 _ h
-- OnlyUpward$Spread.placesOf(LOnlyUpward$World;II)I
set_option maxRecDepth 100000 in
set_option maxHeartbeats 4000000 in
def F_X7_placesOf (n : Nat) (M : AM) (a0 : Nat) (a1 : Int32) (a2 : Int32) : Option Int32 :=
  (iter (fun (s1 : Int32 × Int32) => (gR 10 0 M a0).bind fun v2 => (rdI M v2 (1 : Int32)).bind fun v3 => if v3 ≤ s1.2 then some (.inr s1.1) else (rcv 10 M a0 (F_X10_placeOf n M a0 s1.2 a2)).bind fun v5 => (F_X11_hasBit n M a1 s1.2).bind fun v6 => jn (fun (u7 : Int32) => some (.inl (u7, (s1.2 + (1 : Int32))))) fun j8 => if v6 = 0 then j8 s1.1 else if v5 < 0 then j8 s1.1 else j8 (s1.1 ||| ((1 : Int32) <<< (v5 &&& 31)))) n ((0 : Int32), (0 : Int32))).bind fun (e1 : Int32) => some e1
set_option maxRecDepth 100000 in
set_option maxHeartbeats 4000000 in
theorem C_X7_placesOf {n : Nat} {M : AM} {a0 : Nat} {a1 : Int32} {a2 : Int32} {o : Int32} (h : F_X7_placesOf n M a0 a1 a2 = some o) : Cn yX7_placesOf cX7_placesOf 6 (some .int) 1 [.ref a0, .int a1, .int a2] M (some (.int o)) M := by
  unfold F_X7_placesOf at h
  refine Cn.of rfl (Nat.le_of_ble_eq_true rfl) ?_
  show G yX7_placesOf cX7_placesOf 6 (some .int) 1 0 [(0, .ref a0), (1, .int a1), (2, .int a2)] [] M (some (.int o)) M
  refine G.iconst (0 : Int32) dX7_placesOf_0 ki_0 ?_
  refine G.istore_n (lv' := [(3, .int (0 : Int32)), (0, .ref a0), (1, .int a1), (2, .int a2)]) dX7_placesOf_1 rfl (Nat.le_of_ble_eq_true rfl) rfl ?_
  refine G.iconst (0 : Int32) dX7_placesOf_2 ki_0 ?_
  refine G.istore (lv' := [(4, .int (0 : Int32)), (3, .int (0 : Int32)), (0, .ref a0), (1, .int a1), (2, .int a2)]) dX7_placesOf_3 (Nat.le_of_ble_eq_true rfl) rfl ?_
  refine G.sub (lv' := [(0, .ref a0), (1, .int a1), (2, .int a2), (3, .int (0 : Int32)), (4, .int (0 : Int32))]) [2, 3, 4, 1, 0] rfl ?_
  refine loopE (fun (s1 : Int32 × Int32) => G yX7_placesOf cX7_placesOf 6 (some .int) 1 5 [(0, .ref a0), (1, .int a1), (2, .int a2), (3, .int s1.1), (4, .int s1.2)] [] M (some (.int o)) M) (fun (e1 : Int32) => G yX7_placesOf cX7_placesOf 6 (some .int) 1 52 [(3, .int e1)] [] M (some (.int o)) M) h ?_ ?_
  · intro e1 h
    show G yX7_placesOf cX7_placesOf 6 (some .int) 1 52 [(3, .int e1)] [] M (some (.int o)) M
    refine G.iload_n dX7_placesOf_52 rfl rfl ?_
    exact G.iret dX7_placesOf_53 rfl (rfl) h
  · intro s1 x1 h K1
    show G yX7_placesOf cX7_placesOf 6 (some .int) 1 5 [(0, .ref a0), (1, .int a1), (2, .int a2), (3, .int s1.1), (4, .int s1.2)] [] M (some (.int o)) M
    refine G.iload dX7_placesOf_5 rfl ?_
    refine G.aload_n dX7_placesOf_7 rfl rfl ?_
    refine G.getR dX7_placesOf_8 fkX7_47 fr10_0 h (fun v2 h => ?_)
    refine G.iconst (1 : Int32) dX7_placesOf_11 ki_1 ?_
    refine G.iald dX7_placesOf_12 h (fun v3 h => ?_)
    refine G.icmp_ge 52 dX7_placesOf_13 (by decide) h (fun c4 h => ?_) (fun c4 h => ?_)
    · refine G.sub (lv' := [(3, .int s1.1)]) [3] rfl ?_
      have h := leafR' h K1
      exact h
    · refine G.aload_n dX7_placesOf_16 rfl rfl ?_
      refine G.iload dX7_placesOf_17 rfl ?_
      refine G.iload_n dX7_placesOf_19 rfl rfl ?_
      refine G.callVi (ci := 10) [.int s1.2, .int a2] [] dX7_placesOf_20 lkX7_53 okX10_placeOf rfl (fun v hv => C_X10_placeOf hv) (Nat.le_of_ble_eq_true rfl) rfl rfl (Nat.le_of_ble_eq_true rfl) h (fun v5 h => ?_)
      refine G.istore (lv' := [(5, .int v5), (0, .ref a0), (1, .int a1), (2, .int a2), (3, .int s1.1), (4, .int s1.2)]) dX7_placesOf_23 (Nat.le_of_ble_eq_true rfl) rfl ?_
      refine G.iload_n dX7_placesOf_25 rfl rfl ?_
      refine G.iload dX7_placesOf_26 rfl ?_
      refine G.callSi [.int a1, .int s1.2] [] dX7_placesOf_28 lkX7_43 okX11_hasBit (fun v hv => C_X11_hasBit hv) (Nat.le_of_ble_eq_true rfl) rfl rfl (Nat.le_of_ble_eq_true rfl) h (fun v6 h => ?_)
      refine jn_elim (fun j8 => ∀ (u7 : Int32), j8 u7 = some x1 → G yX7_placesOf cX7_placesOf 6 (some .int) 1 46 [(0, .ref a0), (1, .int a1), (2, .int a2), (3, .int u7), (4, .int s1.2)] [] M (some (.int o)) M) h ?_ ?_
      · intro u7 h
        refine G.iinc s1.2 (w := (s1.2 + (1 : Int32))) (lv' := [(4, .int (s1.2 + (1 : Int32))), (0, .ref a0), (1, .int a1), (2, .int a2), (3, .int u7)]) dX7_placesOf_46 rfl rfl (Nat.le_of_ble_eq_true rfl) rfl ?_
        refine G.goto 5 dX7_placesOf_49 (by decide) ?_
        refine G.sub (lv' := [(0, .ref a0), (1, .int a1), (2, .int a2), (3, .int u7), (4, .int (s1.2 + (1 : Int32)))]) [1, 2, 3, 4, 0] rfl ?_
        have h := leafL' h K1
        exact h
      · intro j8 Jj8 h
        refine G.if_eq 46 dX7_placesOf_31 (by decide) h (fun c9 h => ?_) (fun c9 h => ?_)
        · refine G.sub (lv' := [(0, .ref a0), (1, .int a1), (2, .int a2), (3, .int s1.1), (4, .int s1.2)]) [1, 2, 3, 4, 5] rfl ?_
          exact Jj8 _ h
        · refine G.iload dX7_placesOf_34 rfl ?_
          refine G.if_lt 46 dX7_placesOf_36 (by decide) h (fun c10 h => ?_) (fun c10 h => ?_)
          · refine G.sub (lv' := [(0, .ref a0), (1, .int a1), (2, .int a2), (3, .int s1.1), (4, .int s1.2)]) [1, 2, 3, 4, 5] rfl ?_
            exact Jj8 _ h
          · refine G.iload_n dX7_placesOf_39 rfl rfl ?_
            refine G.iconst (1 : Int32) dX7_placesOf_40 ki_1 ?_
            refine G.iload dX7_placesOf_41 rfl ?_
            refine G.ishl dX7_placesOf_43 ?_
            refine G.ior dX7_placesOf_44 ?_
            refine G.istore_n (lv' := [(3, .int (s1.1 ||| ((1 : Int32) <<< (v5 &&& 31)))), (5, .int v5), (0, .ref a0), (1, .int a1), (2, .int a2), (4, .int s1.2)]) dX7_placesOf_45 rfl (Nat.le_of_ble_eq_true rfl) rfl ?_
            refine G.sub (lv' := [(0, .ref a0), (1, .int a1), (2, .int a2), (3, .int (s1.1 ||| ((1 : Int32) <<< (v5 &&& 31)))), (4, .int s1.2)]) [2, 3, 4, 0, 5] rfl ?_
            exact Jj8 _ h
-- OnlyUpward$Spread.go(LOnlyUpward$World;IIIIZ)V
set_option maxRecDepth 100000 in
set_option maxHeartbeats 4000000 in
def F_X7_go (n : Nat) (M : AM) (a0 : Nat) (a1 : Nat) (a2 : Int32) (a3 : Int32) (a4 : Int32) (a5 : Int32) (a6 : Int32) : Option AM :=
  (gR 7 0 M a0).bind fun v1 => (F_J7_fill_53178 n M v1 (99 : Int32)).bind fun M3 => jn (fun (u4 : Int32) => (iter (fun (s5 : Int32 × Int32 × Int32 × Int32 × AM) => if (24 : Int32) < s5.2.2.2.1 then some (.inr s5.2.2.2.2) else (rcv 7 s5.2.2.2.2 a0 (F_X7_note n s5.2.2.2.2 a0 (s5.2.1 &&& (s5.1 ^^^ (-1 : Int32))) s5.2.2.2.1)).bind fun M8 => jn (fun (u9 : Int32) (u10 : Int32) => some (.inl ((s5.1 ||| s5.2.1), u9, u10, (s5.2.2.2.1 + (1 : Int32)), M8))) fun j11 => if (24 : Int32) ≤ s5.2.2.2.1 then j11 s5.2.1 s5.2.2.1 else (rcv 10 M8 a1 (F_X10_standersWithin n M8 a1 s5.2.2.1 s5.2.2.2.1)).bind fun v13 => (F_X7_toldOrShown n M8 a1 (s5.1 ||| s5.2.1) s5.2.2.2.1 a5 u4).bind fun v14 => jn (fun (u15 : Int32) => j11 (v13 ||| v14) (s5.2.2.1 ||| u15)) fun j16 => if a6 = 0 then (F_X7_placesOf n M8 a1 (s5.1 ||| s5.2.1) s5.2.2.2.1).bind fun v18 => j16 v18 else j16 (0 : Int32)) n ((0 : Int32), a3, (0 : Int32), a4, M3)).bind fun (e5 : AM) => some e5) fun j19 => jn (j19 (0 : Int32)) fun j20 => if a6 = 0 then (F_X7_isShown n M3 a1 a2).bind fun v22 => if v22 = 0 then j20 else j19 (1 : Int32) else j20
set_option maxRecDepth 100000 in
set_option maxHeartbeats 4000000 in
theorem C_X7_go {n : Nat} {M : AM} {a0 : Nat} {a1 : Nat} {a2 : Int32} {a3 : Int32} {a4 : Int32} {a5 : Int32} {a6 : Int32} {o : AM} (h : F_X7_go n M a0 a1 a2 a3 a4 a5 a6 = some o) : Cn yX7_go cX7_go 12 none 3 [.ref a0, .ref a1, .int a2, .int a3, .int a4, .int a5, .int a6] M none o := by
  unfold F_X7_go at h
  refine Cn.of rfl (Nat.le_of_ble_eq_true rfl) ?_
  show G yX7_go cX7_go 12 none 3 0 [(0, .ref a0), (1, .ref a1), (2, .int a2), (3, .int a3), (4, .int a4), (5, .int a5), (6, .int a6)] [] M none o
  refine G.aload_n dX7_go_0 rfl rfl ?_
  refine G.getR dX7_go_1 fkX7_9 fr7_0 h (fun v1 h => ?_)
  refine G.bipush (99 : Int32) dX7_go_4 kb_99 ?_
  refine G.callSv [.ref v1, .int (99 : Int32)] [] dX7_go_6 lkX7_15 okJ7_fill_53178 (fun v hv => C_J7_fill_53178 hv) (Nat.le_of_ble_eq_true rfl) rfl rfl (Nat.le_of_ble_eq_true rfl) h (fun M3 h => ?_)
  refine G.iconst (0 : Int32) dX7_go_9 ki_0 ?_
  refine G.istore (lv' := [(7, .int (0 : Int32)), (0, .ref a0), (1, .ref a1), (2, .int a2), (3, .int a3), (4, .int a4), (5, .int a5), (6, .int a6)]) dX7_go_10 (Nat.le_of_ble_eq_true rfl) rfl ?_
  refine G.iload_n dX7_go_12 rfl rfl ?_
  refine G.istore (lv' := [(8, .int a3), (7, .int (0 : Int32)), (0, .ref a0), (1, .ref a1), (2, .int a2), (3, .int a3), (4, .int a4), (5, .int a5), (6, .int a6)]) dX7_go_13 (Nat.le_of_ble_eq_true rfl) rfl ?_
  refine G.iconst (0 : Int32) dX7_go_15 ki_0 ?_
  refine G.istore (lv' := [(9, .int (0 : Int32)), (8, .int a3), (7, .int (0 : Int32)), (0, .ref a0), (1, .ref a1), (2, .int a2), (3, .int a3), (4, .int a4), (5, .int a5), (6, .int a6)]) dX7_go_16 (Nat.le_of_ble_eq_true rfl) rfl ?_
  refine G.iload dX7_go_18 rfl ?_
  refine jn_elim (fun j19 => ∀ (u4 : Int32), j19 u4 = some o → G yX7_go cX7_go 12 none 3 36 [(0, .ref a0), (1, .ref a1), (4, .int a4), (5, .int a5), (6, .int a6), (7, .int (0 : Int32)), (8, .int a3), (9, .int (0 : Int32))] [.int u4] M3 none o) h ?_ ?_
  · intro u4 h
    refine G.istore (lv' := [(10, .int u4), (0, .ref a0), (1, .ref a1), (4, .int a4), (5, .int a5), (6, .int a6), (7, .int (0 : Int32)), (8, .int a3), (9, .int (0 : Int32))]) dX7_go_36 (Nat.le_of_ble_eq_true rfl) rfl ?_
    refine G.iload dX7_go_38 rfl ?_
    refine G.istore (lv' := [(11, .int a4), (10, .int u4), (0, .ref a0), (1, .ref a1), (4, .int a4), (5, .int a5), (6, .int a6), (7, .int (0 : Int32)), (8, .int a3), (9, .int (0 : Int32))]) dX7_go_40 (Nat.le_of_ble_eq_true rfl) rfl ?_
    refine G.sub (lv' := [(0, .ref a0), (1, .ref a1), (5, .int a5), (6, .int a6), (7, .int (0 : Int32)), (8, .int a3), (9, .int (0 : Int32)), (10, .int u4), (11, .int a4)]) [2, 3, 5, 6, 7, 8, 9, 1, 0] rfl ?_
    refine loopE (fun (s5 : Int32 × Int32 × Int32 × Int32 × AM) => G yX7_go cX7_go 12 none 3 42 [(0, .ref a0), (1, .ref a1), (5, .int a5), (6, .int a6), (7, .int s5.1), (8, .int s5.2.1), (9, .int s5.2.2.1), (10, .int u4), (11, .int s5.2.2.2.1)] [] s5.2.2.2.2 none o) (fun (e5 : AM) => G yX7_go cX7_go 12 none 3 127 [] [] e5 none o) h ?_ ?_
    · intro e5 h
      show G yX7_go cX7_go 12 none 3 127 [] [] e5 none o
      exact G.vretW dX7_go_127 rfl h
    · intro s5 x5 h K5
      show G yX7_go cX7_go 12 none 3 42 [(0, .ref a0), (1, .ref a1), (5, .int a5), (6, .int a6), (7, .int s5.1), (8, .int s5.2.1), (9, .int s5.2.2.1), (10, .int u4), (11, .int s5.2.2.2.1)] [] s5.2.2.2.2 none o
      refine G.iload dX7_go_42 rfl ?_
      refine G.bipush (24 : Int32) dX7_go_44 kb_24 ?_
      refine G.icmp_gt 127 dX7_go_46 (by decide) h (fun c6 h => ?_) (fun c6 h => ?_)
      · refine G.sub (lv' := []) [] rfl ?_
        have h := leafR' h K5
        exact h
      · refine G.aload_n dX7_go_49 rfl rfl ?_
        refine G.iload dX7_go_50 rfl ?_
        refine G.iload dX7_go_52 rfl ?_
        refine G.iconst (-1 : Int32) dX7_go_54 ki_m1 ?_
        refine G.ixor dX7_go_55 ?_
        refine G.iand dX7_go_56 ?_
        refine G.iload dX7_go_57 rfl ?_
        refine G.callVv (ci := 7) [.int (s5.2.1 &&& (s5.1 ^^^ (-1 : Int32))), .int s5.2.2.2.1] [] dX7_go_59 lkX7_25 okX7_note rfl (fun v hv => C_X7_note hv) (Nat.le_of_ble_eq_true rfl) rfl rfl (Nat.le_of_ble_eq_true rfl) h (fun M8 h => ?_)
        refine G.iload dX7_go_62 rfl ?_
        refine G.iload dX7_go_64 rfl ?_
        refine G.ior dX7_go_66 ?_
        refine G.istore (lv' := [(7, .int (s5.1 ||| s5.2.1)), (0, .ref a0), (1, .ref a1), (5, .int a5), (6, .int a6), (8, .int s5.2.1), (9, .int s5.2.2.1), (10, .int u4), (11, .int s5.2.2.2.1)]) dX7_go_67 (Nat.le_of_ble_eq_true rfl) rfl ?_
        refine G.iload dX7_go_69 rfl ?_
        refine G.bipush (24 : Int32) dX7_go_71 kb_24 ?_
        refine jn_elim (fun j11 => ∀ (u9 : Int32) (u10 : Int32), j11 u9 u10 = some x5 → G yX7_go cX7_go 12 none 3 121 [(0, .ref a0), (1, .ref a1), (5, .int a5), (6, .int a6), (7, .int (s5.1 ||| s5.2.1)), (8, .int u9), (9, .int u10), (10, .int u4), (11, .int s5.2.2.2.1)] [] M8 none o) h ?_ ?_
        · intro u9 u10 h
          refine G.iinc s5.2.2.2.1 (w := (s5.2.2.2.1 + (1 : Int32))) (lv' := [(11, .int (s5.2.2.2.1 + (1 : Int32))), (0, .ref a0), (1, .ref a1), (5, .int a5), (6, .int a6), (7, .int (s5.1 ||| s5.2.1)), (8, .int u9), (9, .int u10), (10, .int u4)]) dX7_go_121 rfl rfl (Nat.le_of_ble_eq_true rfl) rfl ?_
          refine G.goto 42 dX7_go_124 (by decide) ?_
          refine G.sub (lv' := [(0, .ref a0), (1, .ref a1), (5, .int a5), (6, .int a6), (7, .int (s5.1 ||| s5.2.1)), (8, .int u9), (9, .int u10), (10, .int u4), (11, .int (s5.2.2.2.1 + (1 : Int32)))]) [1, 2, 3, 4, 5, 6, 7, 8, 0] rfl ?_
          have h := leafL' h K5
          exact h
        · intro j11 Jj11 h
          refine G.icmp_ge 121 dX7_go_73 (by decide) h (fun c12 h => ?_) (fun c12 h => ?_)
          · refine G.sub (lv' := [(0, .ref a0), (1, .ref a1), (5, .int a5), (6, .int a6), (7, .int (s5.1 ||| s5.2.1)), (8, .int s5.2.1), (9, .int s5.2.2.1), (10, .int u4), (11, .int s5.2.2.2.1)]) [1, 2, 3, 4, 0, 5, 6, 7, 8] rfl ?_
            exact Jj11 _ _ h
          · refine G.aload_n dX7_go_76 rfl rfl ?_
            refine G.iload dX7_go_77 rfl ?_
            refine G.iload dX7_go_79 rfl ?_
            refine G.callVi (ci := 10) [.int s5.2.2.1, .int s5.2.2.2.1] [] dX7_go_81 lkX7_29 okX10_standersWithin rfl (fun v hv => C_X10_standersWithin hv) (Nat.le_of_ble_eq_true rfl) rfl rfl (Nat.le_of_ble_eq_true rfl) h (fun v13 h => ?_)
            refine G.aload_n dX7_go_84 rfl rfl ?_
            refine G.iload dX7_go_85 rfl ?_
            refine G.iload dX7_go_87 rfl ?_
            refine G.iload dX7_go_89 rfl ?_
            refine G.iload dX7_go_91 rfl ?_
            refine G.callSi [.ref a1, .int (s5.1 ||| s5.2.1), .int s5.2.2.2.1, .int a5, .int u4] [.int v13] dX7_go_93 lkX7_35 okX7_toldOrShown (fun v hv => C_X7_toldOrShown hv) (Nat.le_of_ble_eq_true rfl) rfl rfl (Nat.le_of_ble_eq_true rfl) h (fun v14 h => ?_)
            refine G.ior dX7_go_96 ?_
            refine G.istore (lv' := [(8, .int (v13 ||| v14)), (7, .int (s5.1 ||| s5.2.1)), (0, .ref a0), (1, .ref a1), (5, .int a5), (6, .int a6), (9, .int s5.2.2.1), (10, .int u4), (11, .int s5.2.2.2.1)]) dX7_go_97 (Nat.le_of_ble_eq_true rfl) rfl ?_
            refine G.iload dX7_go_99 rfl ?_
            refine G.iload dX7_go_101 rfl ?_
            refine jn_elim (fun j16 => ∀ (u15 : Int32), j16 u15 = some x5 → G yX7_go cX7_go 12 none 3 118 [(0, .ref a0), (1, .ref a1), (5, .int a5), (6, .int a6), (7, .int (s5.1 ||| s5.2.1)), (8, .int (v13 ||| v14)), (10, .int u4), (11, .int s5.2.2.2.1)] [.int u15, .int s5.2.2.1] M8 none o) h ?_ ?_
            · intro u15 h
              refine G.ior dX7_go_118 ?_
              refine G.istore (lv' := [(9, .int (s5.2.2.1 ||| u15)), (0, .ref a0), (1, .ref a1), (5, .int a5), (6, .int a6), (7, .int (s5.1 ||| s5.2.1)), (8, .int (v13 ||| v14)), (10, .int u4), (11, .int s5.2.2.2.1)]) dX7_go_119 (Nat.le_of_ble_eq_true rfl) rfl ?_
              refine G.sub (lv' := [(0, .ref a0), (1, .ref a1), (5, .int a5), (6, .int a6), (7, .int (s5.1 ||| s5.2.1)), (8, .int (v13 ||| v14)), (9, .int (s5.2.2.1 ||| u15)), (10, .int u4), (11, .int s5.2.2.2.1)]) [1, 2, 3, 4, 5, 6, 0, 7, 8] rfl ?_
              exact Jj11 _ _ h
            · intro j16 Jj16 h
              refine G.if_eq 110 dX7_go_103 (by decide) h (fun c17 h => ?_) (fun c17 h => ?_)
              · refine G.aload_n dX7_go_110 rfl rfl ?_
                refine G.iload dX7_go_111 rfl ?_
                refine G.iload dX7_go_113 rfl ?_
                refine G.callSi [.ref a1, .int (s5.1 ||| s5.2.1), .int s5.2.2.2.1] [.int s5.2.2.1] dX7_go_115 lkX7_39 okX7_placesOf (fun v hv => C_X7_placesOf hv) (Nat.le_of_ble_eq_true rfl) rfl rfl (Nat.le_of_ble_eq_true rfl) h (fun v18 h => ?_)
                refine G.sub (lv' := [(0, .ref a0), (1, .ref a1), (5, .int a5), (6, .int a6), (7, .int (s5.1 ||| s5.2.1)), (8, .int (v13 ||| v14)), (10, .int u4), (11, .int s5.2.2.2.1)]) [2, 3, 4, 5, 1, 0, 7, 8] rfl ?_
                exact Jj16 _ h
              · refine G.iconst (0 : Int32) dX7_go_106 ki_0 ?_
                refine G.goto 118 dX7_go_107 (by decide) ?_
                refine G.sub (lv' := [(0, .ref a0), (1, .ref a1), (5, .int a5), (6, .int a6), (7, .int (s5.1 ||| s5.2.1)), (8, .int (v13 ||| v14)), (10, .int u4), (11, .int s5.2.2.2.1)]) [2, 3, 4, 5, 1, 0, 7, 8] rfl ?_
                exact Jj16 _ h
  · intro j19 Jj19 h
    refine jn_elim (fun j20 => j20 = some o → G yX7_go cX7_go 12 none 3 35 [(0, .ref a0), (1, .ref a1), (4, .int a4), (5, .int a5), (6, .int a6), (7, .int (0 : Int32)), (8, .int a3), (9, .int (0 : Int32))] [] M3 none o) h ?_ ?_
    · intro h
      refine G.iconst (0 : Int32) dX7_go_35 ki_0 ?_
      refine G.sub (lv' := [(0, .ref a0), (1, .ref a1), (4, .int a4), (5, .int a5), (6, .int a6), (7, .int (0 : Int32)), (8, .int a3), (9, .int (0 : Int32))]) [0, 1, 2, 3, 4, 5, 6, 7] rfl ?_
      exact Jj19 _ h
    · intro j20 Jj20 h
      refine G.if_ne 35 dX7_go_20 (by decide) h (fun c21 h => ?_) (fun c21 h => ?_)
      · refine G.aload_n dX7_go_23 rfl rfl ?_
        refine G.iload_n dX7_go_24 rfl rfl ?_
        refine G.callSi [.ref a1, .int a2] [] dX7_go_25 lkX7_21 okX7_isShown (fun v hv => C_X7_isShown hv) (Nat.le_of_ble_eq_true rfl) rfl rfl (Nat.le_of_ble_eq_true rfl) h (fun v22 h => ?_)
        refine G.if_eq 35 dX7_go_28 (by decide) h (fun c23 h => ?_) (fun c23 h => ?_)
        · refine G.sub (lv' := [(0, .ref a0), (1, .ref a1), (4, .int a4), (5, .int a5), (6, .int a6), (7, .int (0 : Int32)), (8, .int a3), (9, .int (0 : Int32))]) [3, 4, 7, 8, 9, 2, 1, 0] rfl ?_
          exact Jj20  h
        · refine G.iconst (1 : Int32) dX7_go_31 ki_1 ?_
          refine G.goto 36 dX7_go_32 (by decide) ?_
          refine G.sub (lv' := [(0, .ref a0), (1, .ref a1), (4, .int a4), (5, .int a5), (6, .int a6), (7, .int (0 : Int32)), (8, .int a3), (9, .int (0 : Int32))]) [3, 4, 7, 8, 9, 2, 1, 0] rfl ?_
          exact Jj19 _ h
      · refine G.sub (lv' := [(0, .ref a0), (1, .ref a1), (4, .int a4), (5, .int a5), (6, .int a6), (7, .int (0 : Int32)), (8, .int a3), (9, .int (0 : Int32))]) [3, 4, 7, 8, 9, 2, 1, 0] rfl ?_
        exact Jj20  h
-- OnlyUpward.soon(IIIIIZ)I
set_option maxRecDepth 100000 in
set_option maxHeartbeats 4000000 in
def F_X11_soon (n : Nat) (M : AM) (a0 : Nat) (a1 : Int32) (a2 : Int32) (a3 : Int32) (a4 : Int32) (a5 : Int32) (a6 : Int32) : Option (Int32 × AM) :=
  (rcv 11 M a0 (F_X11_isOne n M a0 (1 : Int32) a1)).bind fun v1 => if v1 = 0 then some ((-1 : Int32), M) else (rcv 11 M a0 (F_X11_canSpread n M a0 a2 a3 a4)).bind fun v3 => if v3 = 0 then some ((-1 : Int32), M) else (F_X11_isLaw n M a5).bind fun v5 => if v5 = 0 then some ((-1 : Int32), M) else (gR 11 12 M a0).bind fun v7 => (gR 11 6 M a0).bind fun v8 => (rcv 7 M v7 (F_X7_go n M v7 v8 a2 a3 a4 a5 a6)).bind fun M10 => (gR 11 12 M10 a0).bind fun v11 => (gR 7 0 M10 v11).bind fun v12 => (rdI M10 v12 a1).bind fun v13 => (F_X11_orNever n M10 v13).bind fun v14 => some (v14, M10)
set_option maxRecDepth 100000 in
set_option maxHeartbeats 4000000 in
theorem C_X11_soon {n : Nat} {M : AM} {a0 : Nat} {a1 : Int32} {a2 : Int32} {a3 : Int32} {a4 : Int32} {a5 : Int32} {a6 : Int32} {o : (Int32 × AM)} (h : F_X11_soon n M a0 a1 a2 a3 a4 a5 a6 = some o) : Cn yX11_soon cX11_soon 7 (some .int) 4 [.ref a0, .int a1, .int a2, .int a3, .int a4, .int a5, .int a6] M (some (.int o.1)) o.2 := by
  unfold F_X11_soon at h
  refine Cn.of rfl (Nat.le_of_ble_eq_true rfl) ?_
  show G yX11_soon cX11_soon 7 (some .int) 4 0 [(0, .ref a0), (1, .int a1), (2, .int a2), (3, .int a3), (4, .int a4), (5, .int a5), (6, .int a6)] [] M (some (.int o.1)) o.2
  refine G.aload_n dX11_soon_0 rfl rfl ?_
  refine G.iconst (1 : Int32) dX11_soon_1 ki_1 ?_
  refine G.iload_n dX11_soon_2 rfl rfl ?_
  refine G.callVi (ci := 11) [.int (1 : Int32), .int a1] [] dX11_soon_3 lkX11_141 okX11_isOne rfl (fun v hv => C_X11_isOne hv) (Nat.le_of_ble_eq_true rfl) rfl rfl (Nat.le_of_ble_eq_true rfl) h (fun v1 h => ?_)
  refine G.if_eq 28 dX11_soon_6 (by decide) h (fun c2 h => ?_) (fun c2 h => ?_)
  · refine G.iconst (-1 : Int32) dX11_soon_28 ki_m1 ?_
    exact G.iretW dX11_soon_29 rfl (rfl) h
  · refine G.aload_n dX11_soon_9 rfl rfl ?_
    refine G.iload_n dX11_soon_10 rfl rfl ?_
    refine G.iload_n dX11_soon_11 rfl rfl ?_
    refine G.iload dX11_soon_12 rfl ?_
    refine G.callVi (ci := 11) [.int a2, .int a3, .int a4] [] dX11_soon_14 lkX11_276 okX11_canSpread rfl (fun v hv => C_X11_canSpread hv) (Nat.le_of_ble_eq_true rfl) rfl rfl (Nat.le_of_ble_eq_true rfl) h (fun v3 h => ?_)
    refine G.if_eq 28 dX11_soon_17 (by decide) h (fun c4 h => ?_) (fun c4 h => ?_)
    · refine G.iconst (-1 : Int32) dX11_soon_28 ki_m1 ?_
      exact G.iretW dX11_soon_29 rfl (rfl) h
    · refine G.iload dX11_soon_20 rfl ?_
      refine G.callSi [.int a5] [] dX11_soon_22 lkX11_279 okX11_isLaw (fun v hv => C_X11_isLaw hv) (Nat.le_of_ble_eq_true rfl) rfl rfl (Nat.le_of_ble_eq_true rfl) h (fun v5 h => ?_)
      refine G.if_ne 30 dX11_soon_25 (by decide) h (fun c6 h => ?_) (fun c6 h => ?_)
      · refine G.iconst (-1 : Int32) dX11_soon_28 ki_m1 ?_
        exact G.iretW dX11_soon_29 rfl (rfl) h
      · refine G.aload_n dX11_soon_30 rfl rfl ?_
        refine G.getR dX11_soon_31 fkX11_77 fr11_12 h (fun v7 h => ?_)
        refine G.aload_n dX11_soon_34 rfl rfl ?_
        refine G.getR dX11_soon_35 fkX11_46 fr11_6 h (fun v8 h => ?_)
        refine G.iload_n dX11_soon_38 rfl rfl ?_
        refine G.iload_n dX11_soon_39 rfl rfl ?_
        refine G.iload dX11_soon_40 rfl ?_
        refine G.iload dX11_soon_42 rfl ?_
        refine G.iload dX11_soon_44 rfl ?_
        refine G.callVv (ci := 7) [.ref v8, .int a2, .int a3, .int a4, .int a5, .int a6] [] dX11_soon_46 lkX11_282 okX7_go rfl (fun v hv => C_X7_go hv) (Nat.le_of_ble_eq_true rfl) rfl rfl (Nat.le_of_ble_eq_true rfl) h (fun M10 h => ?_)
        refine G.aload_n dX11_soon_49 rfl rfl ?_
        refine G.getR dX11_soon_50 fkX11_77 fr11_12 h (fun v11 h => ?_)
        refine G.getR dX11_soon_53 fkX11_285 fr7_0 h (fun v12 h => ?_)
        refine G.iload_n dX11_soon_56 rfl rfl ?_
        refine G.iald dX11_soon_57 h (fun v13 h => ?_)
        refine G.callSi [.int v13] [] dX11_soon_58 lkX11_234 okX11_orNever (fun v hv => C_X11_orNever hv) (Nat.le_of_ble_eq_true rfl) rfl rfl (Nat.le_of_ble_eq_true rfl) h (fun v14 h => ?_)
        exact G.iretW dX11_soon_61 rfl (rfl) h
-- OnlyUpward.all(IIIIZ)I
set_option maxRecDepth 100000 in
set_option maxHeartbeats 4000000 in
def F_X11_all (n : Nat) (M : AM) (a0 : Nat) (a1 : Int32) (a2 : Int32) (a3 : Int32) (a4 : Int32) (a5 : Int32) : Option (Int32 × AM) :=
  (rcv 11 M a0 (F_X11_canSpread n M a0 a1 a2 a3)).bind fun v1 => if v1 = 0 then some ((-1 : Int32), M) else (F_X11_isLaw n M a4).bind fun v3 => if v3 = 0 then some ((-1 : Int32), M) else (gR 11 12 M a0).bind fun v5 => (gR 11 6 M a0).bind fun v6 => (rcv 7 M v5 (F_X7_go n M v5 v6 a1 a2 a3 a4 a5)).bind fun M8 => (iter (fun (s9 : Int32 × Int32) => (gR 11 6 M8 a0).bind fun v10 => (gR 10 0 M8 v10).bind fun v11 => (rdI M8 v11 (1 : Int32)).bind fun v12 => if v12 ≤ s9.2 then some (.inr s9.1) else (gR 11 12 M8 a0).bind fun v14 => (gR 7 0 M8 v14).bind fun v15 => (rdI M8 v15 s9.2).bind fun v16 => some (.inl ((mxI s9.1 v16), (s9.2 + (1 : Int32))))) n (a3, (0 : Int32))).bind fun (e9 : Int32) => (F_X11_orNever n M8 e9).bind fun v17 => some (v17, M8)
set_option maxRecDepth 100000 in
set_option maxHeartbeats 4000000 in
theorem C_X11_all {n : Nat} {M : AM} {a0 : Nat} {a1 : Int32} {a2 : Int32} {a3 : Int32} {a4 : Int32} {a5 : Int32} {o : (Int32 × AM)} (h : F_X11_all n M a0 a1 a2 a3 a4 a5 = some o) : Cn yX11_all cX11_all 8 (some .int) 4 [.ref a0, .int a1, .int a2, .int a3, .int a4, .int a5] M (some (.int o.1)) o.2 := by
  unfold F_X11_all at h
  refine Cn.of rfl (Nat.le_of_ble_eq_true rfl) ?_
  show G yX11_all cX11_all 8 (some .int) 4 0 [(0, .ref a0), (1, .int a1), (2, .int a2), (3, .int a3), (4, .int a4), (5, .int a5)] [] M (some (.int o.1)) o.2
  refine G.aload_n dX11_all_0 rfl rfl ?_
  refine G.iload_n dX11_all_1 rfl rfl ?_
  refine G.iload_n dX11_all_2 rfl rfl ?_
  refine G.iload_n dX11_all_3 rfl rfl ?_
  refine G.callVi (ci := 11) [.int a1, .int a2, .int a3] [] dX11_all_4 lkX11_276 okX11_canSpread rfl (fun v hv => C_X11_canSpread hv) (Nat.le_of_ble_eq_true rfl) rfl rfl (Nat.le_of_ble_eq_true rfl) h (fun v1 h => ?_)
  refine G.if_eq 18 dX11_all_7 (by decide) h (fun c2 h => ?_) (fun c2 h => ?_)
  · refine G.iconst (-1 : Int32) dX11_all_18 ki_m1 ?_
    exact G.iretW dX11_all_19 rfl (rfl) h
  · refine G.iload dX11_all_10 rfl ?_
    refine G.callSi [.int a4] [] dX11_all_12 lkX11_279 okX11_isLaw (fun v hv => C_X11_isLaw hv) (Nat.le_of_ble_eq_true rfl) rfl rfl (Nat.le_of_ble_eq_true rfl) h (fun v3 h => ?_)
    refine G.if_ne 20 dX11_all_15 (by decide) h (fun c4 h => ?_) (fun c4 h => ?_)
    · refine G.iconst (-1 : Int32) dX11_all_18 ki_m1 ?_
      exact G.iretW dX11_all_19 rfl (rfl) h
    · refine G.aload_n dX11_all_20 rfl rfl ?_
      refine G.getR dX11_all_21 fkX11_77 fr11_12 h (fun v5 h => ?_)
      refine G.aload_n dX11_all_24 rfl rfl ?_
      refine G.getR dX11_all_25 fkX11_46 fr11_6 h (fun v6 h => ?_)
      refine G.iload_n dX11_all_28 rfl rfl ?_
      refine G.iload_n dX11_all_29 rfl rfl ?_
      refine G.iload_n dX11_all_30 rfl rfl ?_
      refine G.iload dX11_all_31 rfl ?_
      refine G.iload dX11_all_33 rfl ?_
      refine G.callVv (ci := 7) [.ref v6, .int a1, .int a2, .int a3, .int a4, .int a5] [] dX11_all_35 lkX11_282 okX7_go rfl (fun v hv => C_X7_go hv) (Nat.le_of_ble_eq_true rfl) rfl rfl (Nat.le_of_ble_eq_true rfl) h (fun M8 h => ?_)
      refine G.iload_n dX11_all_38 rfl rfl ?_
      refine G.istore (lv' := [(6, .int a3), (0, .ref a0), (1, .int a1), (2, .int a2), (3, .int a3), (4, .int a4), (5, .int a5)]) dX11_all_39 (Nat.le_of_ble_eq_true rfl) rfl ?_
      refine G.iconst (0 : Int32) dX11_all_41 ki_0 ?_
      refine G.istore (lv' := [(7, .int (0 : Int32)), (6, .int a3), (0, .ref a0), (1, .int a1), (2, .int a2), (3, .int a3), (4, .int a4), (5, .int a5)]) dX11_all_42 (Nat.le_of_ble_eq_true rfl) rfl ?_
      refine G.sub (lv' := [(0, .ref a0), (6, .int a3), (7, .int (0 : Int32))]) [2, 1, 0] rfl ?_
      refine loopE (fun (s9 : Int32 × Int32) => G yX11_all cX11_all 8 (some .int) 4 44 [(0, .ref a0), (6, .int s9.1), (7, .int s9.2)] [] M8 (some (.int o.1)) o.2) (fun (e9 : Int32) => G yX11_all cX11_all 8 (some .int) 4 81 [(6, .int e9)] [] M8 (some (.int o.1)) o.2) h ?_ ?_
      · intro e9 h
        show G yX11_all cX11_all 8 (some .int) 4 81 [(6, .int e9)] [] M8 (some (.int o.1)) o.2
        refine G.iload dX11_all_81 rfl ?_
        refine G.callSi [.int e9] [] dX11_all_83 lkX11_234 okX11_orNever (fun v hv => C_X11_orNever hv) (Nat.le_of_ble_eq_true rfl) rfl rfl (Nat.le_of_ble_eq_true rfl) h (fun v17 h => ?_)
        exact G.iretW dX11_all_86 rfl (rfl) h
      · intro s9 x9 h K9
        show G yX11_all cX11_all 8 (some .int) 4 44 [(0, .ref a0), (6, .int s9.1), (7, .int s9.2)] [] M8 (some (.int o.1)) o.2
        refine G.iload dX11_all_44 rfl ?_
        refine G.aload_n dX11_all_46 rfl rfl ?_
        refine G.getR dX11_all_47 fkX11_46 fr11_6 h (fun v10 h => ?_)
        refine G.getR dX11_all_50 fkX11_137 fr10_0 h (fun v11 h => ?_)
        refine G.iconst (1 : Int32) dX11_all_53 ki_1 ?_
        refine G.iald dX11_all_54 h (fun v12 h => ?_)
        refine G.icmp_ge 81 dX11_all_55 (by decide) h (fun c13 h => ?_) (fun c13 h => ?_)
        · refine G.sub (lv' := [(6, .int s9.1)]) [1] rfl ?_
          have h := leafR' h K9
          exact h
        · refine G.iload dX11_all_58 rfl ?_
          refine G.aload_n dX11_all_60 rfl rfl ?_
          refine G.getR dX11_all_61 fkX11_77 fr11_12 h (fun v14 h => ?_)
          refine G.getR dX11_all_64 fkX11_285 fr7_0 h (fun v15 h => ?_)
          refine G.iload dX11_all_67 rfl ?_
          refine G.iald dX11_all_69 h (fun v16 h => ?_)
          refine G.mmax dX11_all_70 lmX11_288 mm_max_1 mm_2 mm_max_3 (Nat.le_of_ble_eq_true rfl) (Nat.le_of_ble_eq_true rfl) ?_
          refine G.istore (lv' := [(6, .int (mxI s9.1 v16)), (0, .ref a0), (7, .int s9.2)]) dX11_all_73 (Nat.le_of_ble_eq_true rfl) rfl ?_
          refine G.iinc s9.2 (w := (s9.2 + (1 : Int32))) (lv' := [(7, .int (s9.2 + (1 : Int32))), (6, .int (mxI s9.1 v16)), (0, .ref a0)]) dX11_all_75 rfl rfl (Nat.le_of_ble_eq_true rfl) rfl ?_
          refine G.goto 44 dX11_all_78 (by decide) ?_
          refine G.sub (lv' := [(0, .ref a0), (6, .int (mxI s9.1 v16)), (7, .int (s9.2 + (1 : Int32)))]) [2, 1, 0] rfl ?_
          have h := leafL' h K9
          exact h
-- OnlyUpward$Cheapest.aim(II)V
set_option maxRecDepth 100000 in
set_option maxHeartbeats 4000000 in
def F_X0_aim (n : Nat) (M : AM) (a0 : Nat) (a1 : Int32) (a2 : Int32) : Option AM :=
  (gR 0 2 M a0).bind fun v1 => (aln M v1).bind fun v2 => jn (fun (M3 : AM) => (gI 0 0 M3 a0).bind fun v4 => jn ((pI 0 0 M3 a0 a1).bind fun M5 => (pI 0 1 M5 a0 a2).bind fun M6 => (gR 0 2 M6 a0).bind fun v7 => (F_J7_fill_53178 n M6 v7 (-1 : Int32)).bind fun M9 => some M9) fun j10 => if a1 = v4 then (gI 0 1 M3 a0).bind fun v12 => if a2 = v12 then some M3 else j10 else j10) fun j14 => if v2 = 0 then (nAr 0 M (24576 : Int32)).bind fun M16 => (pR 0 2 M16 a0 (mK M).length).bind fun M17 => j14 M17 else j14 M
set_option maxRecDepth 100000 in
set_option maxHeartbeats 4000000 in
theorem C_X0_aim {n : Nat} {M : AM} {a0 : Nat} {a1 : Int32} {a2 : Int32} {o : AM} (h : F_X0_aim n M a0 a1 a2 = some o) : Cn yX0_aim cX0_aim 3 none 1 [.ref a0, .int a1, .int a2] M none o := by
  unfold F_X0_aim at h
  refine Cn.of rfl (Nat.le_of_ble_eq_true rfl) ?_
  show G yX0_aim cX0_aim 3 none 1 0 [(0, .ref a0), (1, .int a1), (2, .int a2)] [] M none o
  refine G.aload_n dX0_aim_0 rfl rfl ?_
  refine G.getR dX0_aim_1 fkX0_18 fr0_2 h (fun v1 h => ?_)
  refine G.alen dX0_aim_4 h (fun v2 h => ?_)
  refine jn_elim (fun j14 => ∀ (M3 : AM), j14 M3 = some o → G yX0_aim cX0_aim 3 none 1 17 [(0, .ref a0), (1, .int a1), (2, .int a2)] [] M3 none o) h ?_ ?_
  · intro M3 h
    refine G.iload_n dX0_aim_17 rfl rfl ?_
    refine G.aload_n dX0_aim_18 rfl rfl ?_
    refine G.getI dX0_aim_19 fkX0_9 fr0_0 h (fun v4 h => ?_)
    refine jn_elim (fun j10 => j10 = some o → G yX0_aim cX0_aim 3 none 1 33 [(0, .ref a0), (1, .int a1), (2, .int a2)] [] M3 none o) h ?_ ?_
    · intro h
      refine G.aload_n dX0_aim_33 rfl rfl ?_
      refine G.iload_n dX0_aim_34 rfl rfl ?_
      refine G.putI dX0_aim_35 fkX0_9 nf0_0 ft0_0 h (fun M5 h => ?_)
      refine G.aload_n dX0_aim_38 rfl rfl ?_
      refine G.iload_n dX0_aim_39 rfl rfl ?_
      refine G.putI dX0_aim_40 fkX0_15 nf0_1 ft0_1 h (fun M6 h => ?_)
      refine G.aload_n dX0_aim_43 rfl rfl ?_
      refine G.getR dX0_aim_44 fkX0_18 fr0_2 h (fun v7 h => ?_)
      refine G.iconst (-1 : Int32) dX0_aim_47 ki_m1 ?_
      refine G.callSv [.ref v7, .int (-1 : Int32)] [] dX0_aim_48 lkX0_22 okJ7_fill_53178 (fun v hv => C_J7_fill_53178 hv) (Nat.le_of_ble_eq_true rfl) rfl rfl (Nat.le_of_ble_eq_true rfl) h (fun M9 h => ?_)
      exact G.vretW dX0_aim_51 rfl h
    · intro j10 Jj10 h
      refine G.icmp_ne 33 dX0_aim_22 (by decide) h (fun c11 h => ?_) (fun c11 h => ?_)
      · refine G.iload_n dX0_aim_25 rfl rfl ?_
        refine G.aload_n dX0_aim_26 rfl rfl ?_
        refine G.getI dX0_aim_27 fkX0_15 fr0_1 h (fun v12 h => ?_)
        refine G.icmp_eq 51 dX0_aim_30 (by decide) h (fun c13 h => ?_) (fun c13 h => ?_)
        · exact G.vretW dX0_aim_51 rfl h
        · refine G.sub (lv' := [(0, .ref a0), (1, .int a1), (2, .int a2)]) [0, 1, 2] rfl ?_
          exact Jj10  h
      · refine G.sub (lv' := [(0, .ref a0), (1, .int a1), (2, .int a2)]) [0, 1, 2] rfl ?_
        exact Jj10  h
  · intro j14 Jj14 h
    refine G.if_ne 17 dX0_aim_5 (by decide) h (fun c15 h => ?_) (fun c15 h => ?_)
    · refine G.aload_n dX0_aim_8 rfl rfl ?_
      refine G.sipush (24576 : Int32) dX0_aim_9 ks_24576 ?_
      refine G.newa 0 dX0_aim_12 (by decide) arc_0 h (fun M16 h => ?_)
      refine G.putR dX0_aim_14 fkX0_18 nf0_2 fr0_2 h (fun M17 h => ?_)
      refine G.sub (lv' := [(0, .ref a0), (1, .int a1), (2, .int a2)]) [0, 1, 2] rfl ?_
      exact Jj14 _ h
    · refine G.sub (lv' := [(0, .ref a0), (1, .int a1), (2, .int a2)]) [0, 1, 2] rfl ?_
      exact Jj14 _ h
-- OnlyUpward$Cheapest.entryBy(LOnlyUpward$World;III)I
set_option maxRecDepth 100000 in
set_option maxHeartbeats 4000000 in
def F_X0_entryBy (n : Nat) (Fl : AM → Nat → Nat → Int32 → Int32 → Option (Int32 × AM)) (M : AM) (a0 : Nat) (a1 : Nat) (a2 : Int32) (a3 : Int32) (a4 : Int32) : Option (Int32 × AM) :=
  (rcv 10 M a1 (F_X10_placeOf n M a1 a4 a2)).bind fun v1 => (rcv 10 M a1 (F_X10_sayTo n M a1 a4 a2)).bind fun v2 => (rcv 10 M a1 (F_X10_hearers n M a1 v1 a2)).bind fun v3 => jn (fun (u4 : Int32) (M5 : AM) => (rcv 10 M5 a1 (F_X10_standers n M5 a1 v1 a2)).bind fun v6 => (iter (fun (s7 : Int32 × Int32 × AM) => (gR 10 0 s7.2.2 a1).bind fun v8 => (rdI s7.2.2 v8 (7 : Int32)).bind fun v9 => if v9 ≤ s7.2.1 then some (.inr (s7.1, s7.2.2)) else if (a3 ||| v6) = a3 then some (.inr (s7.1, s7.2.2)) else (gR 10 9 s7.2.2 a1).bind fun v12 => (rdI s7.2.2 v12 s7.2.1).bind fun v13 => (gI 0 1 s7.2.2 a0).bind fun v14 => jn (fun (u15 : Int32) (M16 : AM) => some (.inl (u15, (s7.2.1 + (1 : Int32)), M16))) fun j17 => if v13 = v14 then (rcv 0 s7.2.2 a0 (Fl s7.2.2 a0 a1 (a2 + (1 : Int32)) (a3 ||| v6))).bind fun v19 => (gR 10 10 v19.2 a1).bind fun v20 => (rdI v19.2 v20 s7.2.1).bind fun v21 => lets ((v19.1 + (v21 * (32 : Int32))) + (1 : Int32)) fun (w22 : Int32) => lets (mnI s7.1 ((((w22 * (2048 : Int32)) + (1000 : Int32)) + ((20 : Int32) * a4)) + s7.2.1)) fun (w23 : Int32) => j17 w23 v19.2 else j17 s7.1 s7.2.2) n (u4, (0 : Int32), M5)).bind fun (e7 : Int32 × AM) => some (e7.1, e7.2)) fun j24 => if v2 = 0 then j24 (1024002047 : Int32) M else if (a3 ||| v3) = a3 then j24 (1024002047 : Int32) M else (rcv 0 M a0 (Fl M a0 a1 (a2 + (1 : Int32)) (a3 ||| v3))).bind fun v27 => (F_J6_numberOfTrailingZeros_0f7a4 n v27.2 v2).bind fun v28 => lets (mnI (1024002047 : Int32) (((((v27.1 + (32 : Int32)) + (1 : Int32)) * (2048 : Int32)) + ((20 : Int32) * a4)) + v28)) fun (w29 : Int32) => j24 w29 v27.2
set_option maxRecDepth 100000 in
set_option maxHeartbeats 4000000 in
theorem C_X0_entryBy {n : Nat} {Fl : AM → Nat → Nat → Int32 → Int32 → Option (Int32 × AM)} {M : AM} {a0 : Nat} {a1 : Nat} {a2 : Int32} {a3 : Int32} {a4 : Int32} {o : (Int32 × AM)} {dd : Nat} (hFl : ∀ (M : AM) (t w : Nat) (a b : Int32) (o : Int32 × AM), Fl M t w a b = some o → Cn yX0_least cX0_least 4 (some .int) dd [.ref t, .ref w, .int a, .int b] M (some (.int o.1)) o.2) (h : F_X0_entryBy n Fl M a0 a1 a2 a3 a4 = some o) : Cn yX0_entryBy cX0_entryBy 12 (some .int) (dd + 1) [.ref a0, .ref a1, .int a2, .int a3, .int a4] M (some (.int o.1)) o.2 := by
  unfold F_X0_entryBy at h
  refine Cn.of rfl (Nat.le_of_ble_eq_true rfl) ?_
  show G yX0_entryBy cX0_entryBy 12 (some .int) (dd + 1) 0 [(0, .ref a0), (1, .ref a1), (2, .int a2), (3, .int a3), (4, .int a4)] [] M (some (.int o.1)) o.2
  refine G.aload_n dX0_entryBy_0 rfl rfl ?_
  refine G.iload dX0_entryBy_1 rfl ?_
  refine G.iload_n dX0_entryBy_3 rfl rfl ?_
  refine G.callVi (ci := 10) [.int a4, .int a2] [] dX0_entryBy_4 lkX0_56 okX10_placeOf rfl (fun v hv => C_X10_placeOf hv) (by omega) rfl rfl (Nat.le_of_ble_eq_true rfl) h (fun v1 h => ?_)
  refine G.istore (lv' := [(5, .int v1), (0, .ref a0), (1, .ref a1), (2, .int a2), (3, .int a3), (4, .int a4)]) dX0_entryBy_7 (Nat.le_of_ble_eq_true rfl) rfl ?_
  refine G.ldc (1024002047 : Int32) dX0_entryBy_9 kcX0_40 ?_
  refine G.istore (lv' := [(6, .int (1024002047 : Int32)), (5, .int v1), (0, .ref a0), (1, .ref a1), (2, .int a2), (3, .int a3), (4, .int a4)]) dX0_entryBy_11 (Nat.le_of_ble_eq_true rfl) rfl ?_
  refine G.aload_n dX0_entryBy_13 rfl rfl ?_
  refine G.iload dX0_entryBy_14 rfl ?_
  refine G.iload_n dX0_entryBy_16 rfl rfl ?_
  refine G.callVi (ci := 10) [.int a4, .int a2] [] dX0_entryBy_17 lkX0_59 okX10_sayTo rfl (fun v hv => C_X10_sayTo hv) (by omega) rfl rfl (Nat.le_of_ble_eq_true rfl) h (fun v2 h => ?_)
  refine G.istore (lv' := [(7, .int v2), (6, .int (1024002047 : Int32)), (5, .int v1), (0, .ref a0), (1, .ref a1), (2, .int a2), (3, .int a3), (4, .int a4)]) dX0_entryBy_20 (Nat.le_of_ble_eq_true rfl) rfl ?_
  refine G.iload_n dX0_entryBy_22 rfl rfl ?_
  refine G.aload_n dX0_entryBy_23 rfl rfl ?_
  refine G.iload dX0_entryBy_24 rfl ?_
  refine G.iload_n dX0_entryBy_26 rfl rfl ?_
  refine G.callVi (ci := 10) [.int v1, .int a2] [.int a3] dX0_entryBy_27 lkX0_62 okX10_hearers rfl (fun v hv => C_X10_hearers hv) (by omega) rfl rfl (Nat.le_of_ble_eq_true rfl) h (fun v3 h => ?_)
  refine G.ior dX0_entryBy_30 ?_
  refine G.istore (lv' := [(8, .int (a3 ||| v3)), (7, .int v2), (6, .int (1024002047 : Int32)), (5, .int v1), (0, .ref a0), (1, .ref a1), (2, .int a2), (3, .int a3), (4, .int a4)]) dX0_entryBy_31 (Nat.le_of_ble_eq_true rfl) rfl ?_
  refine G.iload dX0_entryBy_33 rfl ?_
  refine jn_elim (fun j24 => ∀ (u4 : Int32) (M5 : AM), j24 u4 M5 = some o → G yX0_entryBy cX0_entryBy 12 (some .int) (dd + 1) 86 [(0, .ref a0), (1, .ref a1), (2, .int a2), (3, .int a3), (4, .int a4), (5, .int v1), (6, .int u4)] [] M5 (some (.int o.1)) o.2) h ?_ ?_
  · intro u4 M5 h
    refine G.iload_n dX0_entryBy_86 rfl rfl ?_
    refine G.aload_n dX0_entryBy_87 rfl rfl ?_
    refine G.iload dX0_entryBy_88 rfl ?_
    refine G.iload_n dX0_entryBy_90 rfl rfl ?_
    refine G.callVi (ci := 10) [.int v1, .int a2] [.int a3] dX0_entryBy_91 lkX0_71 okX10_standers rfl (fun v hv => C_X10_standers hv) (by omega) rfl rfl (Nat.le_of_ble_eq_true rfl) h (fun v6 h => ?_)
    refine G.ior dX0_entryBy_94 ?_
    refine G.istore (lv' := [(9, .int (a3 ||| v6)), (0, .ref a0), (1, .ref a1), (2, .int a2), (3, .int a3), (4, .int a4), (5, .int v1), (6, .int u4)]) dX0_entryBy_95 (Nat.le_of_ble_eq_true rfl) rfl ?_
    refine G.iconst (0 : Int32) dX0_entryBy_97 ki_0 ?_
    refine G.istore (lv' := [(10, .int (0 : Int32)), (9, .int (a3 ||| v6)), (0, .ref a0), (1, .ref a1), (2, .int a2), (3, .int a3), (4, .int a4), (5, .int v1), (6, .int u4)]) dX0_entryBy_98 (Nat.le_of_ble_eq_true rfl) rfl ?_
    refine G.sub (lv' := [(0, .ref a0), (1, .ref a1), (2, .int a2), (3, .int a3), (4, .int a4), (6, .int u4), (9, .int (a3 ||| v6)), (10, .int (0 : Int32))]) [2, 3, 4, 5, 6, 8, 1, 0] rfl ?_
    refine loopE (fun (s7 : Int32 × Int32 × AM) => G yX0_entryBy cX0_entryBy 12 (some .int) (dd + 1) 100 [(0, .ref a0), (1, .ref a1), (2, .int a2), (3, .int a3), (4, .int a4), (6, .int s7.1), (9, .int (a3 ||| v6)), (10, .int s7.2.1)] [] s7.2.2 (some (.int o.1)) o.2) (fun (e7 : Int32 × AM) => G yX0_entryBy cX0_entryBy 12 (some .int) (dd + 1) 189 [(6, .int e7.1)] [] e7.2 (some (.int o.1)) o.2) h ?_ ?_
    · intro e7 h
      show G yX0_entryBy cX0_entryBy 12 (some .int) (dd + 1) 189 [(6, .int e7.1)] [] e7.2 (some (.int o.1)) o.2
      refine G.iload dX0_entryBy_189 rfl ?_
      exact G.iretW dX0_entryBy_191 rfl (rfl) h
    · intro s7 x7 h K7
      show G yX0_entryBy cX0_entryBy 12 (some .int) (dd + 1) 100 [(0, .ref a0), (1, .ref a1), (2, .int a2), (3, .int a3), (4, .int a4), (6, .int s7.1), (9, .int (a3 ||| v6)), (10, .int s7.2.1)] [] s7.2.2 (some (.int o.1)) o.2
      refine G.iload dX0_entryBy_100 rfl ?_
      refine G.aload_n dX0_entryBy_102 rfl rfl ?_
      refine G.getR dX0_entryBy_103 fkX0_41 fr10_0 h (fun v8 h => ?_)
      refine G.bipush (7 : Int32) dX0_entryBy_106 kb_7 ?_
      refine G.iald dX0_entryBy_108 h (fun v9 h => ?_)
      refine G.icmp_ge 189 dX0_entryBy_109 (by decide) h (fun c10 h => ?_) (fun c10 h => ?_)
      · refine G.sub (lv' := [(6, .int s7.1)]) [5] rfl ?_
        have h := leafR' h K7
        exact h
      · refine G.iload dX0_entryBy_112 rfl ?_
        refine G.iload_n dX0_entryBy_114 rfl rfl ?_
        refine G.icmp_eq 189 dX0_entryBy_115 (by decide) h (fun c11 h => ?_) (fun c11 h => ?_)
        · refine G.sub (lv' := [(6, .int s7.1)]) [5] rfl ?_
          have h := leafR' h K7
          exact h
        · refine G.aload_n dX0_entryBy_118 rfl rfl ?_
          refine G.getR dX0_entryBy_119 fkX0_74 fr10_9 h (fun v12 h => ?_)
          refine G.iload dX0_entryBy_122 rfl ?_
          refine G.iald dX0_entryBy_124 h (fun v13 h => ?_)
          refine G.aload_n dX0_entryBy_125 rfl rfl ?_
          refine G.getI dX0_entryBy_126 fkX0_15 fr0_1 h (fun v14 h => ?_)
          refine jn_elim (fun j17 => ∀ (u15 : Int32) (M16 : AM), j17 u15 M16 = some x7 → G yX0_entryBy cX0_entryBy 12 (some .int) (dd + 1) 183 [(0, .ref a0), (1, .ref a1), (2, .int a2), (3, .int a3), (4, .int a4), (6, .int u15), (9, .int (a3 ||| v6)), (10, .int s7.2.1)] [] M16 (some (.int o.1)) o.2) h ?_ ?_
          · intro u15 M16 h
            refine G.iinc s7.2.1 (w := (s7.2.1 + (1 : Int32))) (lv' := [(10, .int (s7.2.1 + (1 : Int32))), (0, .ref a0), (1, .ref a1), (2, .int a2), (3, .int a3), (4, .int a4), (6, .int u15), (9, .int (a3 ||| v6))]) dX0_entryBy_183 rfl rfl (Nat.le_of_ble_eq_true rfl) rfl ?_
            refine G.goto 100 dX0_entryBy_186 (by decide) ?_
            refine G.sub (lv' := [(0, .ref a0), (1, .ref a1), (2, .int a2), (3, .int a3), (4, .int a4), (6, .int u15), (9, .int (a3 ||| v6)), (10, .int (s7.2.1 + (1 : Int32)))]) [1, 2, 3, 4, 5, 6, 7, 0] rfl ?_
            have h := leafL' h K7
            exact h
          · intro j17 Jj17 h
            refine G.icmp_ne 183 dX0_entryBy_129 (by decide) h (fun c18 h => ?_) (fun c18 h => ?_)
            · refine G.aload_n dX0_entryBy_132 rfl rfl ?_
              refine G.aload_n dX0_entryBy_133 rfl rfl ?_
              refine G.iload_n dX0_entryBy_134 rfl rfl ?_
              refine G.iconst (1 : Int32) dX0_entryBy_135 ki_1 ?_
              refine G.iadd dX0_entryBy_136 ?_
              refine G.iload dX0_entryBy_137 rfl ?_
              refine G.callVi (ci := 0) [.ref a1, .int (a2 + (1 : Int32)), .int (a3 ||| v6)] [] dX0_entryBy_139 lkX0_28 okX0_least rfl (fun v hv => hFl _ _ _ _ _ _ hv) (by omega) rfl rfl (Nat.le_of_ble_eq_true rfl) h (fun v19 h => ?_)
              refine G.aload_n dX0_entryBy_142 rfl rfl ?_
              refine G.getR dX0_entryBy_143 fkX0_77 fr10_10 h (fun v20 h => ?_)
              refine G.iload dX0_entryBy_146 rfl ?_
              refine G.iald dX0_entryBy_148 h (fun v21 h => ?_)
              refine G.bipush (32 : Int32) dX0_entryBy_149 kb_32 ?_
              refine G.imul dX0_entryBy_151 ?_
              refine G.iadd dX0_entryBy_152 ?_
              refine G.iconst (1 : Int32) dX0_entryBy_153 ki_1 ?_
              refine G.iadd dX0_entryBy_154 ?_
              refine lets_elim h (fun w22 ew22 h => ?_)
              rw [← ew22]
              refine G.istore (lv' := [(11, .int w22), (0, .ref a0), (1, .ref a1), (2, .int a2), (3, .int a3), (4, .int a4), (6, .int s7.1), (9, .int (a3 ||| v6)), (10, .int s7.2.1)]) dX0_entryBy_155 (Nat.le_of_ble_eq_true rfl) rfl ?_
              refine G.iload dX0_entryBy_157 rfl ?_
              refine G.iload dX0_entryBy_159 rfl ?_
              refine G.sipush (2048 : Int32) dX0_entryBy_161 ks_2048 ?_
              refine G.imul dX0_entryBy_164 ?_
              refine G.sipush (1000 : Int32) dX0_entryBy_165 ks_1000 ?_
              refine G.iadd dX0_entryBy_168 ?_
              refine G.bipush (20 : Int32) dX0_entryBy_169 kb_20 ?_
              refine G.iload dX0_entryBy_171 rfl ?_
              refine G.imul dX0_entryBy_173 ?_
              refine G.iadd dX0_entryBy_174 ?_
              refine G.iload dX0_entryBy_175 rfl ?_
              refine G.iadd dX0_entryBy_177 ?_
              refine G.mmin dX0_entryBy_178 lmX0_50 mm_min_1 mm_2 mm_min_3 (Nat.le_of_ble_eq_true rfl) (Nat.le_of_ble_eq_true rfl) ?_
              refine lets_elim h (fun w23 ew23 h => ?_)
              rw [← ew23]
              refine G.istore (lv' := [(6, .int w23), (11, .int w22), (0, .ref a0), (1, .ref a1), (2, .int a2), (3, .int a3), (4, .int a4), (9, .int (a3 ||| v6)), (10, .int s7.2.1)]) dX0_entryBy_181 (Nat.le_of_ble_eq_true rfl) rfl ?_
              refine G.sub (lv' := [(0, .ref a0), (1, .ref a1), (2, .int a2), (3, .int a3), (4, .int a4), (6, .int w23), (9, .int (a3 ||| v6)), (10, .int s7.2.1)]) [2, 3, 4, 5, 6, 0, 7, 8] rfl ?_
              exact Jj17 _ _ h
            · refine G.sub (lv' := [(0, .ref a0), (1, .ref a1), (2, .int a2), (3, .int a3), (4, .int a4), (6, .int s7.1), (9, .int (a3 ||| v6)), (10, .int s7.2.1)]) [0, 1, 2, 3, 4, 5, 6, 7] rfl ?_
              exact Jj17 _ _ h
  · intro j24 Jj24 h
    refine G.if_eq 86 dX0_entryBy_35 (by decide) h (fun c25 h => ?_) (fun c25 h => ?_)
    · refine G.sub (lv' := [(0, .ref a0), (1, .ref a1), (2, .int a2), (3, .int a3), (4, .int a4), (5, .int v1), (6, .int (1024002047 : Int32))]) [4, 5, 6, 7, 8, 3, 2] rfl ?_
      exact Jj24 _ _ h
    · refine G.iload dX0_entryBy_38 rfl ?_
      refine G.iload_n dX0_entryBy_40 rfl rfl ?_
      refine G.icmp_eq 86 dX0_entryBy_41 (by decide) h (fun c26 h => ?_) (fun c26 h => ?_)
      · refine G.sub (lv' := [(0, .ref a0), (1, .ref a1), (2, .int a2), (3, .int a3), (4, .int a4), (5, .int v1), (6, .int (1024002047 : Int32))]) [4, 5, 6, 7, 8, 3, 2] rfl ?_
        exact Jj24 _ _ h
      · refine G.aload_n dX0_entryBy_44 rfl rfl ?_
        refine G.aload_n dX0_entryBy_45 rfl rfl ?_
        refine G.iload_n dX0_entryBy_46 rfl rfl ?_
        refine G.iconst (1 : Int32) dX0_entryBy_47 ki_1 ?_
        refine G.iadd dX0_entryBy_48 ?_
        refine G.iload dX0_entryBy_49 rfl ?_
        refine G.callVi (ci := 0) [.ref a1, .int (a2 + (1 : Int32)), .int (a3 ||| v3)] [] dX0_entryBy_51 lkX0_28 okX0_least rfl (fun v hv => hFl _ _ _ _ _ _ hv) (by omega) rfl rfl (Nat.le_of_ble_eq_true rfl) h (fun v27 h => ?_)
        refine G.bipush (32 : Int32) dX0_entryBy_54 kb_32 ?_
        refine G.iadd dX0_entryBy_56 ?_
        refine G.iconst (1 : Int32) dX0_entryBy_57 ki_1 ?_
        refine G.iadd dX0_entryBy_58 ?_
        refine G.istore (lv' := [(9, .int ((v27.1 + (32 : Int32)) + (1 : Int32))), (8, .int (a3 ||| v3)), (7, .int v2), (6, .int (1024002047 : Int32)), (5, .int v1), (0, .ref a0), (1, .ref a1), (2, .int a2), (3, .int a3), (4, .int a4)]) dX0_entryBy_59 (Nat.le_of_ble_eq_true rfl) rfl ?_
        refine G.iload dX0_entryBy_61 rfl ?_
        refine G.iload dX0_entryBy_63 rfl ?_
        refine G.sipush (2048 : Int32) dX0_entryBy_65 ks_2048 ?_
        refine G.imul dX0_entryBy_68 ?_
        refine G.bipush (20 : Int32) dX0_entryBy_69 kb_20 ?_
        refine G.iload dX0_entryBy_71 rfl ?_
        refine G.imul dX0_entryBy_73 ?_
        refine G.iadd dX0_entryBy_74 ?_
        refine G.iload dX0_entryBy_75 rfl ?_
        refine G.callSi [.int v2] [.int ((((v27.1 + (32 : Int32)) + (1 : Int32)) * (2048 : Int32)) + ((20 : Int32) * a4)), .int (1024002047 : Int32)] dX0_entryBy_77 lkX0_65 okJ6_numberOfTrailingZeros_0f7a4 (fun v hv => C_J6_numberOfTrailingZeros_0f7a4 hv) (by omega) rfl rfl (Nat.le_of_ble_eq_true rfl) h (fun v28 h => ?_)
        refine G.iadd dX0_entryBy_80 ?_
        refine G.mmin dX0_entryBy_81 lmX0_50 mm_min_1 mm_2 mm_min_3 (Nat.le_of_ble_eq_true rfl) (Nat.le_of_ble_eq_true rfl) ?_
        refine lets_elim h (fun w29 ew29 h => ?_)
        rw [← ew29]
        refine G.istore (lv' := [(6, .int w29), (9, .int ((v27.1 + (32 : Int32)) + (1 : Int32))), (8, .int (a3 ||| v3)), (7, .int v2), (5, .int v1), (0, .ref a0), (1, .ref a1), (2, .int a2), (3, .int a3), (4, .int a4)]) dX0_entryBy_84 (Nat.le_of_ble_eq_true rfl) rfl ?_
        refine G.sub (lv' := [(0, .ref a0), (1, .ref a1), (2, .int a2), (3, .int a3), (4, .int a4), (5, .int v1), (6, .int w29)]) [5, 6, 7, 8, 9, 4, 0] rfl ?_
        exact Jj24 _ _ h
-- OnlyUpward$Cheapest.entry(LOnlyUpward$World;II)I
set_option maxRecDepth 100000 in
set_option maxHeartbeats 4000000 in
def F_X0_entry (n : Nat) (Fl : AM → Nat → Nat → Int32 → Int32 → Option (Int32 × AM)) (M : AM) (a0 : Nat) (a1 : Nat) (a2 : Int32) (a3 : Int32) : Option (Int32 × AM) :=
  jn (some ((1024002047 : Int32), M)) fun j1 => if ((a2 * (1024 : Int32)) + a3) < 0 then j1 else (gR 0 2 M a0).bind fun v3 => (aln M v3).bind fun v4 => if ((a2 * (1024 : Int32)) + a3) < v4 then (gR 0 2 M a0).bind fun v6 => (rdI M v6 ((a2 * (1024 : Int32)) + a3)).bind fun v7 => jn (fun (M8 : AM) => (gR 0 2 M8 a0).bind fun v9 => (rdI M8 v9 ((a2 * (1024 : Int32)) + a3)).bind fun v10 => some (v10, M8)) fun j11 => if v7 = (-1 : Int32) then (rcv 0 M a0 (Fl M a0 a1 (a2 + (1 : Int32)) a3)).bind fun v13 => (iter (fun (s14 : Int32 × Int32 × AM) => (gR 10 0 s14.2.2 a1).bind fun v15 => (rdI s14.2.2 v15 (1 : Int32)).bind fun v16 => if v16 ≤ s14.2.1 then some (.inr (s14.1, s14.2.2)) else (F_X11_hasBit n s14.2.2 a3 s14.2.1).bind fun v18 => jn (fun (u19 : Int32) (M20 : AM) => some (.inl (u19, (s14.2.1 + (1 : Int32)), M20))) fun j21 => if v18 = 0 then j21 s14.1 s14.2.2 else (rcv 0 s14.2.2 a0 (F_X0_entryBy n Fl s14.2.2 a0 a1 a2 a3 s14.2.1)).bind fun v23 => j21 (mnI s14.1 v23.1) v23.2) n (((v13.1 * (2048 : Int32)) + (2047 : Int32)), (0 : Int32), v13.2)).bind fun (e14 : Int32 × AM) => (gR 0 2 e14.2 a0).bind fun v24 => (wrI e14.2 v24 ((a2 * (1024 : Int32)) + a3) e14.1).bind fun M25 => j11 M25 else j11 M else j1
set_option maxRecDepth 100000 in
set_option maxHeartbeats 4000000 in
theorem C_X0_entry {n : Nat} {Fl : AM → Nat → Nat → Int32 → Int32 → Option (Int32 × AM)} {M : AM} {a0 : Nat} {a1 : Nat} {a2 : Int32} {a3 : Int32} {o : (Int32 × AM)} {dd : Nat} (hFl : ∀ (M : AM) (t w : Nat) (a b : Int32) (o : Int32 × AM), Fl M t w a b = some o → Cn yX0_least cX0_least 4 (some .int) dd [.ref t, .ref w, .int a, .int b] M (some (.int o.1)) o.2) (h : F_X0_entry n Fl M a0 a1 a2 a3 = some o) : Cn yX0_entry cX0_entry 7 (some .int) (dd + 2) [.ref a0, .ref a1, .int a2, .int a3] M (some (.int o.1)) o.2 := by
  unfold F_X0_entry at h
  refine Cn.of rfl (Nat.le_of_ble_eq_true rfl) ?_
  show G yX0_entry cX0_entry 7 (some .int) (dd + 2) 0 [(0, .ref a0), (1, .ref a1), (2, .int a2), (3, .int a3)] [] M (some (.int o.1)) o.2
  refine G.iload_n dX0_entry_0 rfl rfl ?_
  refine G.sipush (1024 : Int32) dX0_entry_1 ks_1024 ?_
  refine G.imul dX0_entry_4 ?_
  refine G.iload_n dX0_entry_5 rfl rfl ?_
  refine G.iadd dX0_entry_6 ?_
  refine G.istore (lv' := [(4, .int ((a2 * (1024 : Int32)) + a3)), (0, .ref a0), (1, .ref a1), (2, .int a2), (3, .int a3)]) dX0_entry_7 (Nat.le_of_ble_eq_true rfl) rfl ?_
  refine G.iload dX0_entry_9 rfl ?_
  refine jn_elim (fun j1 => j1 = some o → G yX0_entry cX0_entry 7 (some .int) (dd + 2) 24 [] [] M (some (.int o.1)) o.2) h ?_ ?_
  · intro h
    refine G.ldc (1024002047 : Int32) dX0_entry_24 kcX0_40 ?_
    exact G.iretW dX0_entry_26 rfl (rfl) h
  · intro j1 Jj1 h
    refine G.if_lt 24 dX0_entry_11 (by decide) h (fun c2 h => ?_) (fun c2 h => ?_)
    · refine G.sub (lv' := []) [] rfl ?_
      exact Jj1  h
    · refine G.iload dX0_entry_14 rfl ?_
      refine G.aload_n dX0_entry_16 rfl rfl ?_
      refine G.getR dX0_entry_17 fkX0_18 fr0_2 h (fun v3 h => ?_)
      refine G.alen dX0_entry_20 h (fun v4 h => ?_)
      refine G.icmp_lt 27 dX0_entry_21 (by decide) h (fun c5 h => ?_) (fun c5 h => ?_)
      · refine G.aload_n dX0_entry_27 rfl rfl ?_
        refine G.getR dX0_entry_28 fkX0_18 fr0_2 h (fun v6 h => ?_)
        refine G.iload dX0_entry_31 rfl ?_
        refine G.iald dX0_entry_33 h (fun v7 h => ?_)
        refine G.iconst (-1 : Int32) dX0_entry_34 ki_m1 ?_
        refine jn_elim (fun j11 => ∀ (M8 : AM), j11 M8 = some o → G yX0_entry cX0_entry 7 (some .int) (dd + 2) 111 [(0, .ref a0), (4, .int ((a2 * (1024 : Int32)) + a3))] [] M8 (some (.int o.1)) o.2) h ?_ ?_
        · intro M8 h
          refine G.aload_n dX0_entry_111 rfl rfl ?_
          refine G.getR dX0_entry_112 fkX0_18 fr0_2 h (fun v9 h => ?_)
          refine G.iload dX0_entry_115 rfl ?_
          refine G.iald dX0_entry_117 h (fun v10 h => ?_)
          exact G.iretW dX0_entry_118 rfl (rfl) h
        · intro j11 Jj11 h
          refine G.icmp_ne 111 dX0_entry_35 (by decide) h (fun c12 h => ?_) (fun c12 h => ?_)
          · refine G.aload_n dX0_entry_38 rfl rfl ?_
            refine G.aload_n dX0_entry_39 rfl rfl ?_
            refine G.iload_n dX0_entry_40 rfl rfl ?_
            refine G.iconst (1 : Int32) dX0_entry_41 ki_1 ?_
            refine G.iadd dX0_entry_42 ?_
            refine G.iload_n dX0_entry_43 rfl rfl ?_
            refine G.callVi (ci := 0) [.ref a1, .int (a2 + (1 : Int32)), .int a3] [] dX0_entry_44 lkX0_28 okX0_least rfl (fun v hv => hFl _ _ _ _ _ _ hv) (by omega) rfl rfl (Nat.le_of_ble_eq_true rfl) h (fun v13 h => ?_)
            refine G.sipush (2048 : Int32) dX0_entry_47 ks_2048 ?_
            refine G.imul dX0_entry_50 ?_
            refine G.sipush (2047 : Int32) dX0_entry_51 ks_2047 ?_
            refine G.iadd dX0_entry_54 ?_
            refine G.istore (lv' := [(5, .int ((v13.1 * (2048 : Int32)) + (2047 : Int32))), (4, .int ((a2 * (1024 : Int32)) + a3)), (0, .ref a0), (1, .ref a1), (2, .int a2), (3, .int a3)]) dX0_entry_55 (Nat.le_of_ble_eq_true rfl) rfl ?_
            refine G.iconst (0 : Int32) dX0_entry_57 ki_0 ?_
            refine G.istore (lv' := [(6, .int (0 : Int32)), (5, .int ((v13.1 * (2048 : Int32)) + (2047 : Int32))), (4, .int ((a2 * (1024 : Int32)) + a3)), (0, .ref a0), (1, .ref a1), (2, .int a2), (3, .int a3)]) dX0_entry_58 (Nat.le_of_ble_eq_true rfl) rfl ?_
            refine G.sub (lv' := [(0, .ref a0), (1, .ref a1), (2, .int a2), (3, .int a3), (4, .int ((a2 * (1024 : Int32)) + a3)), (5, .int ((v13.1 * (2048 : Int32)) + (2047 : Int32))), (6, .int (0 : Int32))]) [3, 4, 5, 6, 2, 1, 0] rfl ?_
            refine loopE (fun (s14 : Int32 × Int32 × AM) => G yX0_entry cX0_entry 7 (some .int) (dd + 2) 60 [(0, .ref a0), (1, .ref a1), (2, .int a2), (3, .int a3), (4, .int ((a2 * (1024 : Int32)) + a3)), (5, .int s14.1), (6, .int s14.2.1)] [] s14.2.2 (some (.int o.1)) o.2) (fun (e14 : Int32 × AM) => G yX0_entry cX0_entry 7 (some .int) (dd + 2) 102 [(0, .ref a0), (4, .int ((a2 * (1024 : Int32)) + a3)), (5, .int e14.1)] [] e14.2 (some (.int o.1)) o.2) h ?_ ?_
            · intro e14 h
              show G yX0_entry cX0_entry 7 (some .int) (dd + 2) 102 [(0, .ref a0), (4, .int ((a2 * (1024 : Int32)) + a3)), (5, .int e14.1)] [] e14.2 (some (.int o.1)) o.2
              refine G.aload_n dX0_entry_102 rfl rfl ?_
              refine G.getR dX0_entry_103 fkX0_18 fr0_2 h (fun v24 h => ?_)
              refine G.iload dX0_entry_106 rfl ?_
              refine G.iload dX0_entry_108 rfl ?_
              refine G.iast dX0_entry_110 h (fun M25 h => ?_)
              refine G.sub (lv' := [(0, .ref a0), (4, .int ((a2 * (1024 : Int32)) + a3))]) [0, 1] rfl ?_
              exact Jj11 _ h
            · intro s14 x14 h K14
              show G yX0_entry cX0_entry 7 (some .int) (dd + 2) 60 [(0, .ref a0), (1, .ref a1), (2, .int a2), (3, .int a3), (4, .int ((a2 * (1024 : Int32)) + a3)), (5, .int s14.1), (6, .int s14.2.1)] [] s14.2.2 (some (.int o.1)) o.2
              refine G.iload dX0_entry_60 rfl ?_
              refine G.aload_n dX0_entry_62 rfl rfl ?_
              refine G.getR dX0_entry_63 fkX0_41 fr10_0 h (fun v15 h => ?_)
              refine G.iconst (1 : Int32) dX0_entry_66 ki_1 ?_
              refine G.iald dX0_entry_67 h (fun v16 h => ?_)
              refine G.icmp_ge 102 dX0_entry_68 (by decide) h (fun c17 h => ?_) (fun c17 h => ?_)
              · refine G.sub (lv' := [(0, .ref a0), (4, .int ((a2 * (1024 : Int32)) + a3)), (5, .int s14.1)]) [0, 4, 5] rfl ?_
                have h := leafR' h K14
                exact h
              · refine G.iload_n dX0_entry_71 rfl rfl ?_
                refine G.iload dX0_entry_72 rfl ?_
                refine G.callSi [.int a3, .int s14.2.1] [] dX0_entry_74 lkX0_32 okX11_hasBit (fun v hv => C_X11_hasBit hv) (by omega) rfl rfl (Nat.le_of_ble_eq_true rfl) h (fun v18 h => ?_)
                refine jn_elim (fun j21 => ∀ (u19 : Int32) (M20 : AM), j21 u19 M20 = some x14 → G yX0_entry cX0_entry 7 (some .int) (dd + 2) 96 [(0, .ref a0), (1, .ref a1), (2, .int a2), (3, .int a3), (4, .int ((a2 * (1024 : Int32)) + a3)), (5, .int u19), (6, .int s14.2.1)] [] M20 (some (.int o.1)) o.2) h ?_ ?_
                · intro u19 M20 h
                  refine G.iinc s14.2.1 (w := (s14.2.1 + (1 : Int32))) (lv' := [(6, .int (s14.2.1 + (1 : Int32))), (0, .ref a0), (1, .ref a1), (2, .int a2), (3, .int a3), (4, .int ((a2 * (1024 : Int32)) + a3)), (5, .int u19)]) dX0_entry_96 rfl rfl (Nat.le_of_ble_eq_true rfl) rfl ?_
                  refine G.goto 60 dX0_entry_99 (by decide) ?_
                  refine G.sub (lv' := [(0, .ref a0), (1, .ref a1), (2, .int a2), (3, .int a3), (4, .int ((a2 * (1024 : Int32)) + a3)), (5, .int u19), (6, .int (s14.2.1 + (1 : Int32)))]) [1, 2, 3, 4, 5, 6, 0] rfl ?_
                  have h := leafL' h K14
                  exact h
                · intro j21 Jj21 h
                  refine G.if_eq 96 dX0_entry_77 (by decide) h (fun c22 h => ?_) (fun c22 h => ?_)
                  · refine G.sub (lv' := [(0, .ref a0), (1, .ref a1), (2, .int a2), (3, .int a3), (4, .int ((a2 * (1024 : Int32)) + a3)), (5, .int s14.1), (6, .int s14.2.1)]) [0, 1, 2, 3, 4, 5, 6] rfl ?_
                    exact Jj21 _ _ h
                  · refine G.iload dX0_entry_80 rfl ?_
                    refine G.aload_n dX0_entry_82 rfl rfl ?_
                    refine G.aload_n dX0_entry_83 rfl rfl ?_
                    refine G.iload_n dX0_entry_84 rfl rfl ?_
                    refine G.iload_n dX0_entry_85 rfl rfl ?_
                    refine G.iload dX0_entry_86 rfl ?_
                    refine G.callVi (ci := 0) [.ref a1, .int a2, .int a3, .int s14.2.1] [.int s14.1] dX0_entry_88 lkX0_46 okX0_entryBy rfl (fun v hv => C_X0_entryBy hFl hv) (by omega) rfl rfl (Nat.le_of_ble_eq_true rfl) h (fun v23 h => ?_)
                    refine G.mmin dX0_entry_91 lmX0_50 mm_min_1 mm_2 mm_min_3 (Nat.le_of_ble_eq_true rfl) (Nat.le_of_ble_eq_true rfl) ?_
                    refine G.istore (lv' := [(5, .int (mnI s14.1 v23.1)), (0, .ref a0), (1, .ref a1), (2, .int a2), (3, .int a3), (4, .int ((a2 * (1024 : Int32)) + a3)), (6, .int s14.2.1)]) dX0_entry_94 (Nat.le_of_ble_eq_true rfl) rfl ?_
                    refine G.sub (lv' := [(0, .ref a0), (1, .ref a1), (2, .int a2), (3, .int a3), (4, .int ((a2 * (1024 : Int32)) + a3)), (5, .int (mnI s14.1 v23.1)), (6, .int s14.2.1)]) [1, 2, 3, 4, 5, 0, 6] rfl ?_
                    exact Jj21 _ _ h
          · refine G.sub (lv' := [(0, .ref a0), (4, .int ((a2 * (1024 : Int32)) + a3))]) [1, 0] rfl ?_
            exact Jj11 _ h
      · refine G.sub (lv' := []) [] rfl ?_
        exact Jj1  h
-- OnlyUpward$Cheapest.least(LOnlyUpward$World;II)I
set_option maxRecDepth 100000 in
set_option maxHeartbeats 4000000 in
def F_X0_least (n : Nat) : Nat → (AM → Nat → Nat → Int32 → Int32 → Option (Int32 × AM))
  | 0 => fun _ _ _ _ _ => none
  | k + 1 => fun M a0 a1 a2 a3 =>
    (gI 0 0 M a0).bind fun v1 => (F_X11_hasBit n M a3 v1).bind fun v2 => if v2 = 0 then if a2 < (24 : Int32) then (rcv 0 M a0 (F_X0_entry n (F_X0_least n k) M a0 a1 a2 a3)).bind fun v5 => gd (¬ (2048 : Int32) = 0) (some ((v5.1 / (2048 : Int32)), v5.2)) else some ((500000 : Int32), M) else some ((0 : Int32), M)
set_option maxRecDepth 100000 in
set_option maxHeartbeats 4000000 in
theorem C_X0_least_k (n : Nat) : ∀ (k : Nat) (M : AM) (a0 : Nat) (a1 : Nat) (a2 : Int32) (a3 : Int32) (o : (Int32 × AM)), F_X0_least n k M a0 a1 a2 a3 = some o → Cn yX0_least cX0_least 4 (some .int) (3 * k) [.ref a0, .ref a1, .int a2, .int a3] M (some (.int o.1)) o.2 := by
  intro k
  induction k with
  | zero => intro M a0 a1 a2 a3 o h; cases h
  | succ k hFl =>
    intro M a0 a1 a2 a3 o h
    unfold F_X0_least at h
    refine Cn.of rfl (Nat.le_of_ble_eq_true rfl) ?_
    show G yX0_least cX0_least 4 (some .int) (3 * (k + 1)) 0 [(0, .ref a0), (1, .ref a1), (2, .int a2), (3, .int a3)] [] M (some (.int o.1)) o.2
    refine G.iload_n dX0_least_0 rfl rfl ?_
    refine G.aload_n dX0_least_1 rfl rfl ?_
    refine G.getI dX0_least_2 fkX0_9 fr0_0 h (fun v1 h => ?_)
    refine G.callSi [.int a3, .int v1] [] dX0_least_5 lkX0_32 okX11_hasBit (fun v hv => C_X11_hasBit hv) (by omega) rfl rfl (Nat.le_of_ble_eq_true rfl) h (fun v2 h => ?_)
    refine G.if_eq 13 dX0_least_8 (by decide) h (fun c3 h => ?_) (fun c3 h => ?_)
    · refine G.iload_n dX0_least_13 rfl rfl ?_
      refine G.bipush (24 : Int32) dX0_least_14 kb_24 ?_
      refine G.icmp_lt 24 dX0_least_16 (by decide) h (fun c4 h => ?_) (fun c4 h => ?_)
      · refine G.aload_n dX0_least_24 rfl rfl ?_
        refine G.aload_n dX0_least_25 rfl rfl ?_
        refine G.iload_n dX0_least_26 rfl rfl ?_
        refine G.iload_n dX0_least_27 rfl rfl ?_
        refine G.callVi (ci := 0) [.ref a1, .int a2, .int a3] [] dX0_least_28 lkX0_37 okX0_entry rfl (fun v hv => C_X0_entry hFl hv) (by omega) rfl rfl (Nat.le_of_ble_eq_true rfl) h (fun v5 h => ?_)
        refine G.sipush (2048 : Int32) dX0_least_31 ks_2048 ?_
        refine gd_elim h (fun c6 h => ?_)
        refine G.idiv dX0_least_34 c6 ?_
        exact G.iretW dX0_least_35 rfl (rfl) h
      · refine G.ldc (500000 : Int32) dX0_least_19 kcX0_36 ?_
        refine G.goto 35 dX0_least_21 (by decide) ?_
        exact G.iretW dX0_least_35 rfl (rfl) h
    · refine G.iconst (0 : Int32) dX0_least_11 ki_0 ?_
      exact G.iretW dX0_least_12 rfl (rfl) h
theorem C_X0_least {n : Nat} {M : AM} {a0 : Nat} {a1 : Nat} {a2 : Int32} {a3 : Int32} {o : (Int32 × AM)} (h : F_X0_least n 26 M a0 a1 a2 a3 = some o) : Cn yX0_least cX0_least 4 (some .int) 78 [.ref a0, .ref a1, .int a2, .int a3] M (some (.int o.1)) o.2 := C_X0_least_k n 26 M a0 a1 a2 a3 o h
-- OnlyUpward$Cheapest.leastWay(LOnlyUpward$World;II)I
set_option maxRecDepth 100000 in
set_option maxHeartbeats 4000000 in
def F_X0_leastWay (n : Nat) (M : AM) (a0 : Nat) (a1 : Nat) (a2 : Int32) (a3 : Int32) : Option (Int32 × AM) :=
  (rcv 0 M a0 (F_X0_least n 26 M a0 a1 a2 a3)).bind fun v1 => some (v1.1, v1.2)
set_option maxRecDepth 100000 in
set_option maxHeartbeats 4000000 in
theorem C_X0_leastWay {n : Nat} {M : AM} {a0 : Nat} {a1 : Nat} {a2 : Int32} {a3 : Int32} {o : (Int32 × AM)} (h : F_X0_leastWay n M a0 a1 a2 a3 = some o) : Cn yX0_leastWay cX0_leastWay 4 (some .int) 79 [.ref a0, .ref a1, .int a2, .int a3] M (some (.int o.1)) o.2 := by
  unfold F_X0_leastWay at h
  refine Cn.of rfl (Nat.le_of_ble_eq_true rfl) ?_
  show G yX0_leastWay cX0_leastWay 4 (some .int) 79 0 [(0, .ref a0), (1, .ref a1), (2, .int a2), (3, .int a3)] [] M (some (.int o.1)) o.2
  refine G.aload_n dX0_leastWay_0 rfl rfl ?_
  refine G.aload_n dX0_leastWay_1 rfl rfl ?_
  refine G.iload_n dX0_leastWay_2 rfl rfl ?_
  refine G.iload_n dX0_leastWay_3 rfl rfl ?_
  refine G.callVi (ci := 0) [.ref a1, .int a2, .int a3] [] dX0_leastWay_4 lkX0_28 okX0_least rfl (fun v hv => C_X0_least hv) (Nat.le_of_ble_eq_true rfl) rfl rfl (Nat.le_of_ble_eq_true rfl) h (fun v1 h => ?_)
  exact G.iretW dX0_leastWay_7 rfl (rfl) h
