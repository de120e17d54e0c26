-- OnlyUpwardModel.all(IIIIZ)I
set_option maxRecDepth 100000 in
set_option maxHeartbeats 4000000 in
def F_X12_all (n : Nat) (M : AM) (a0 : Nat) (a1 : Int32) (a2 : Int32) (a3 : Int32) (a4 : Int32) (a5 : Int32) : Option (Int32 × AM) :=
  (rcv 12 M a0 (F_X12_isSoon n M a0 a1 a2 a3 a4)).bind fun v1 => if v1 = 0 then some ((-1 : Int32), M) else (rcv 12 M a0 (F_X12_spreads n M a0 a1 a2 a3 a4 a5)).bind fun M4 => (iter (fun (s5 : Int32) => if (25 : Int32) ≤ s5 then some (.inr (.inl ())) else (gR 12 74 M4 a0).bind fun v7 => (rdI M4 v7 s5).bind fun v8 => (rcv 12 M4 a0 (F_X12_has n M4 a0 (1 : Int32))).bind fun v9 => if v8 = (((1 : Int32) <<< (v9 &&& 31)) - (1 : Int32)) then some (.inr (.inr (s5, M4))) else some (.inl (s5 + (1 : Int32)))) n a3).bind fun (z5 : (Unit) ⊕ (Int32 × AM)) => Sum.elim (fun (e5 : Unit) => some ((-2 : Int32), M4)) (fun (v : (Int32 × AM)) => some v) z5
set_option maxRecDepth 100000 in
set_option maxHeartbeats 4000000 in
theorem C_X12_all {n : Nat} {M : AM} {a0 : Nat} {a1 : Int32} {a2 : Int32} {a3 : Int32} {a4 : Int32} {a5 : Int32} {o : (Int32 × AM)} (h : F_X12_all n M a0 a1 a2 a3 a4 a5 = some o) : Cn yX12_all cX12_all 7 (some .int) 6 [.ref a0, .int a1, .int a2, .int a3, .int a4, .int a5] M (some (.int o.1)) o.2 := by
  unfold F_X12_all at h
  refine Cn.of rfl (Nat.le_of_ble_eq_true rfl) ?_
  show G yX12_all cX12_all 7 (some .int) 6 0 [(0, .ref a0), (1, .int a1), (2, .int a2), (3, .int a3), (4, .int a4), (5, .int a5)] [] M (some (.int o.1)) o.2
  refine G.aload_n dX12_all_0 rfl rfl ?_
  refine G.iload_n dX12_all_1 rfl rfl ?_
  refine G.iload_n dX12_all_2 rfl rfl ?_
  refine G.iload_n dX12_all_3 rfl rfl ?_
  refine G.iload dX12_all_4 rfl ?_
  refine G.callVi (ci := 12) [.int a1, .int a2, .int a3, .int a4] [] dX12_all_6 lkX12_487 okX12_isSoon rfl (fun v hv => C_X12_isSoon hv) (Nat.le_of_ble_eq_true rfl) rfl rfl (Nat.le_of_ble_eq_true rfl) h (fun v1 h => ?_)
  refine G.if_ne 14 dX12_all_9 (by decide) h (fun c2 h => ?_) (fun c2 h => ?_)
  · refine G.iconst (-1 : Int32) dX12_all_12 ki_m1 ?_
    exact G.iretW dX12_all_13 rfl (rfl) h
  · refine G.aload_n dX12_all_14 rfl rfl ?_
    refine G.iload_n dX12_all_15 rfl rfl ?_
    refine G.iload_n dX12_all_16 rfl rfl ?_
    refine G.iload_n dX12_all_17 rfl rfl ?_
    refine G.iload dX12_all_18 rfl ?_
    refine G.iload dX12_all_20 rfl ?_
    refine G.callVv (ci := 12) [.int a1, .int a2, .int a3, .int a4, .int a5] [] dX12_all_22 lkX12_491 okX12_spreads rfl (fun v hv => C_X12_spreads hv) (Nat.le_of_ble_eq_true rfl) rfl rfl (Nat.le_of_ble_eq_true rfl) h (fun M4 h => ?_)
    refine G.iload_n dX12_all_25 rfl rfl ?_
    refine G.istore (lv' := [(6, .int a3), (0, .ref a0), (1, .int a1), (2, .int a2), (3, .int a3), (4, .int a4), (5, .int a5)]) dX12_all_26 (Nat.le_of_ble_eq_true rfl) rfl ?_
    refine G.sub (lv' := [(0, .ref a0), (6, .int a3)]) [1, 0] rfl ?_
    refine loopE (fun (s5 : Int32) => G yX12_all cX12_all 7 (some .int) 6 28 [(0, .ref a0), (6, .int s5)] [] M4 (some (.int o.1)) o.2) (fun (z5 : (Unit) ⊕ (Int32 × AM)) => Sum.elim (fun (e5 : Unit) => G yX12_all cX12_all 7 (some .int) 6 63 [] [] M4 (some (.int o.1)) o.2) (fun (v : (Int32 × AM)) => some v = some o) z5) h ?_ ?_
    · intro z5 h
      rcases z5 with e5 | v
      · have h := sum_inl h
        show G yX12_all cX12_all 7 (some .int) 6 63 [] [] M4 (some (.int o.1)) o.2
        refine G.bipush (-2 : Int32) dX12_all_63 kb_m2 ?_
        exact G.iretW dX12_all_65 rfl (rfl) h
      · have h := sum_inr h
        exact h
    · intro s5 x5 h K5
      show G yX12_all cX12_all 7 (some .int) 6 28 [(0, .ref a0), (6, .int s5)] [] M4 (some (.int o.1)) o.2
      refine G.iload dX12_all_28 rfl ?_
      refine G.bipush (25 : Int32) dX12_all_30 kb_25 ?_
      refine G.icmp_ge 63 dX12_all_32 (by decide) h (fun c6 h => ?_) (fun c6 h => ?_)
      · refine G.sub (lv' := []) [] rfl ?_
        have h := leafR' h K5
        exact h
      · refine G.aload_n dX12_all_35 rfl rfl ?_
        refine G.getR dX12_all_36 fkX12_179 fr12_74 h (fun v7 h => ?_)
        refine G.iload dX12_all_39 rfl ?_
        refine G.iald dX12_all_41 h (fun v8 h => ?_)
        refine G.iconst (1 : Int32) dX12_all_42 ki_1 ?_
        refine G.aload_n dX12_all_43 rfl rfl ?_
        refine G.iconst (1 : Int32) dX12_all_44 ki_1 ?_
        refine G.callVi (ci := 12) [.int (1 : Int32)] [.int (1 : Int32), .int v8] dX12_all_45 lkX12_383 okX12_has rfl (fun v hv => C_X12_has hv) (Nat.le_of_ble_eq_true rfl) rfl rfl (Nat.le_of_ble_eq_true rfl) h (fun v9 h => ?_)
        refine G.ishl dX12_all_48 ?_
        refine G.iconst (1 : Int32) dX12_all_49 ki_1 ?_
        refine G.isub dX12_all_50 ?_
        refine G.icmp_ne 57 dX12_all_51 (by decide) h (fun c10 h => ?_) (fun c10 h => ?_)
        · refine G.iload dX12_all_54 rfl ?_
          have h := leafR' h K5
          exact G.iretW dX12_all_56 rfl (rfl) h
        · refine G.iinc s5 (w := (s5 + (1 : Int32))) (lv' := [(6, .int (s5 + (1 : Int32))), (0, .ref a0)]) dX12_all_57 rfl rfl (Nat.le_of_ble_eq_true rfl) rfl ?_
          refine G.goto 28 dX12_all_60 (by decide) ?_
          refine G.sub (lv' := [(0, .ref a0), (6, .int (s5 + (1 : Int32)))]) [1, 0] rfl ?_
          have h := leafL' h K5
          exact h
-- java/lang/Integer.numberOfTrailingZeros(I)I
set_option maxRecDepth 100000 in
set_option maxHeartbeats 4000000 in
def F_J6_numberOfTrailingZeros_0f7a4 (n : Nat) (M : AM) (a0 : Int32) : Option Int32 :=
  lets ((a0 ^^^ (-1 : Int32)) &&& (a0 - (1 : Int32))) fun (w1 : Int32) => if 0 < w1 then jn (fun (u3 : Int32) (u4 : Int32) => jn (fun (u5 : Int32) (u6 : Int32) => jn (fun (u7 : Int32) (u8 : Int32) => jn (fun (u9 : Int32) (u10 : Int32) => some (u10 + (ush u9 (1 : Int32)))) fun j11 => if u7 ≤ (4 : Int32) then j11 u7 u8 else j11 (ush u7 (2 : Int32)) (u8 + (2 : Int32))) fun j13 => if u5 ≤ (16 : Int32) then j13 u5 u6 else j13 (ush u5 (4 : Int32)) (u6 + (4 : Int32))) fun j15 => if u3 ≤ (256 : Int32) then j15 u3 u4 else j15 (ush u3 (8 : Int32)) (u4 + (8 : Int32))) fun j17 => if w1 ≤ (65536 : Int32) then j17 w1 (1 : Int32) else j17 (ush w1 (16 : Int32)) ((1 : Int32) + (16 : Int32)) else some (w1 &&& (32 : Int32))
set_option maxRecDepth 100000 in
set_option maxHeartbeats 4000000 in
theorem C_J6_numberOfTrailingZeros_0f7a4 {n : Nat} {M : AM} {a0 : Int32} {o : Int32} (h : F_J6_numberOfTrailingZeros_0f7a4 n M a0 = some o) : Cn yJ6_numberOfTrailingZeros_0f7a4 cJ6_numberOfTrailingZeros_0f7a4 2 (some .int) 0 [.int a0] M (some (.int o)) M := by
  unfold F_J6_numberOfTrailingZeros_0f7a4 at h
  refine Cn.of rfl (Nat.le_of_ble_eq_true rfl) ?_
  show G yJ6_numberOfTrailingZeros_0f7a4 cJ6_numberOfTrailingZeros_0f7a4 2 (some .int) 0 0 [(0, .int a0)] [] M (some (.int o)) M
  refine G.iload_n dJ6_numberOfTrailingZeros_0f7a4_0 rfl rfl ?_
  refine G.iconst (-1 : Int32) dJ6_numberOfTrailingZeros_0f7a4_1 ki_m1 ?_
  refine G.ixor dJ6_numberOfTrailingZeros_0f7a4_2 ?_
  refine G.iload_n dJ6_numberOfTrailingZeros_0f7a4_3 rfl rfl ?_
  refine G.iconst (1 : Int32) dJ6_numberOfTrailingZeros_0f7a4_4 ki_1 ?_
  refine G.isub dJ6_numberOfTrailingZeros_0f7a4_5 ?_
  refine G.iand dJ6_numberOfTrailingZeros_0f7a4_6 ?_
  refine lets_elim h (fun w1 ew1 h => ?_)
  rw [← ew1]
  refine G.istore_n (lv' := [(0, .int w1)]) dJ6_numberOfTrailingZeros_0f7a4_7 rfl (Nat.le_of_ble_eq_true rfl) rfl ?_
  refine G.iload_n dJ6_numberOfTrailingZeros_0f7a4_8 rfl rfl ?_
  refine G.if_gt 17 dJ6_numberOfTrailingZeros_0f7a4_9 (by decide) h (fun c2 h => ?_) (fun c2 h => ?_)
  · refine G.iconst (1 : Int32) dJ6_numberOfTrailingZeros_0f7a4_17 ki_1 ?_
    refine G.istore_n (lv' := [(1, .int (1 : Int32)), (0, .int w1)]) dJ6_numberOfTrailingZeros_0f7a4_18 rfl (Nat.le_of_ble_eq_true rfl) rfl ?_
    refine G.iload_n dJ6_numberOfTrailingZeros_0f7a4_19 rfl rfl ?_
    refine G.ldc_w (65536 : Int32) dJ6_numberOfTrailingZeros_0f7a4_20 kcJ6_264 ?_
    refine jn_elim (fun j17 => ∀ (u3 : Int32) (u4 : Int32), j17 u3 u4 = some o → G yJ6_numberOfTrailingZeros_0f7a4 cJ6_numberOfTrailingZeros_0f7a4 2 (some .int) 0 34 [(0, .int u3), (1, .int u4)] [] M (some (.int o)) M) h ?_ ?_
    · intro u3 u4 h
      refine G.iload_n dJ6_numberOfTrailingZeros_0f7a4_34 rfl rfl ?_
      refine G.sipush (256 : Int32) dJ6_numberOfTrailingZeros_0f7a4_35 ks_256 ?_
      refine jn_elim (fun j15 => ∀ (u5 : Int32) (u6 : Int32), j15 u5 u6 = some o → G yJ6_numberOfTrailingZeros_0f7a4 cJ6_numberOfTrailingZeros_0f7a4 2 (some .int) 0 49 [(0, .int u5), (1, .int u6)] [] M (some (.int o)) M) h ?_ ?_
      · intro u5 u6 h
        refine G.iload_n dJ6_numberOfTrailingZeros_0f7a4_49 rfl rfl ?_
        refine G.bipush (16 : Int32) dJ6_numberOfTrailingZeros_0f7a4_50 kb_16 ?_
        refine jn_elim (fun j13 => ∀ (u7 : Int32) (u8 : Int32), j13 u7 u8 = some o → G yJ6_numberOfTrailingZeros_0f7a4 cJ6_numberOfTrailingZeros_0f7a4 2 (some .int) 0 62 [(0, .int u7), (1, .int u8)] [] M (some (.int o)) M) h ?_ ?_
        · intro u7 u8 h
          refine G.iload_n dJ6_numberOfTrailingZeros_0f7a4_62 rfl rfl ?_
          refine G.iconst (4 : Int32) dJ6_numberOfTrailingZeros_0f7a4_63 ki_4 ?_
          refine jn_elim (fun j11 => ∀ (u9 : Int32) (u10 : Int32), j11 u9 u10 = some o → G yJ6_numberOfTrailingZeros_0f7a4 cJ6_numberOfTrailingZeros_0f7a4 2 (some .int) 0 74 [(0, .int u9), (1, .int u10)] [] M (some (.int o)) M) h ?_ ?_
          · intro u9 u10 h
            refine G.iload_n dJ6_numberOfTrailingZeros_0f7a4_74 rfl rfl ?_
            refine G.iload_n dJ6_numberOfTrailingZeros_0f7a4_75 rfl rfl ?_
            refine G.iconst (1 : Int32) dJ6_numberOfTrailingZeros_0f7a4_76 ki_1 ?_
            refine G.iushr dJ6_numberOfTrailingZeros_0f7a4_77 ?_
            refine G.iadd dJ6_numberOfTrailingZeros_0f7a4_78 ?_
            exact G.iret dJ6_numberOfTrailingZeros_0f7a4_79 rfl (rfl) h
          · intro j11 Jj11 h
            refine G.icmp_le 74 dJ6_numberOfTrailingZeros_0f7a4_64 (by decide) h (fun c12 h => ?_) (fun c12 h => ?_)
            · refine G.sub (lv' := [(0, .int u7), (1, .int u8)]) [0, 1] rfl ?_
              exact Jj11 _ _ h
            · refine G.iinc u8 (w := (u8 + (2 : Int32))) (lv' := [(1, .int (u8 + (2 : Int32))), (0, .int u7)]) dJ6_numberOfTrailingZeros_0f7a4_67 rfl rfl (Nat.le_of_ble_eq_true rfl) rfl ?_
              refine G.iload_n dJ6_numberOfTrailingZeros_0f7a4_70 rfl rfl ?_
              refine G.iconst (2 : Int32) dJ6_numberOfTrailingZeros_0f7a4_71 ki_2 ?_
              refine G.iushr dJ6_numberOfTrailingZeros_0f7a4_72 ?_
              refine G.istore_n (lv' := [(0, .int (ush u7 (2 : Int32))), (1, .int (u8 + (2 : Int32)))]) dJ6_numberOfTrailingZeros_0f7a4_73 rfl (Nat.le_of_ble_eq_true rfl) rfl ?_
              refine G.sub (lv' := [(0, .int (ush u7 (2 : Int32))), (1, .int (u8 + (2 : Int32)))]) [0, 1] rfl ?_
              exact Jj11 _ _ h
        · intro j13 Jj13 h
          refine G.icmp_le 62 dJ6_numberOfTrailingZeros_0f7a4_52 (by decide) h (fun c14 h => ?_) (fun c14 h => ?_)
          · refine G.sub (lv' := [(0, .int u5), (1, .int u6)]) [0, 1] rfl ?_
            exact Jj13 _ _ h
          · refine G.iinc u6 (w := (u6 + (4 : Int32))) (lv' := [(1, .int (u6 + (4 : Int32))), (0, .int u5)]) dJ6_numberOfTrailingZeros_0f7a4_55 rfl rfl (Nat.le_of_ble_eq_true rfl) rfl ?_
            refine G.iload_n dJ6_numberOfTrailingZeros_0f7a4_58 rfl rfl ?_
            refine G.iconst (4 : Int32) dJ6_numberOfTrailingZeros_0f7a4_59 ki_4 ?_
            refine G.iushr dJ6_numberOfTrailingZeros_0f7a4_60 ?_
            refine G.istore_n (lv' := [(0, .int (ush u5 (4 : Int32))), (1, .int (u6 + (4 : Int32)))]) dJ6_numberOfTrailingZeros_0f7a4_61 rfl (Nat.le_of_ble_eq_true rfl) rfl ?_
            refine G.sub (lv' := [(0, .int (ush u5 (4 : Int32))), (1, .int (u6 + (4 : Int32)))]) [0, 1] rfl ?_
            exact Jj13 _ _ h
      · intro j15 Jj15 h
        refine G.icmp_le 49 dJ6_numberOfTrailingZeros_0f7a4_38 (by decide) h (fun c16 h => ?_) (fun c16 h => ?_)
        · refine G.sub (lv' := [(0, .int u3), (1, .int u4)]) [0, 1] rfl ?_
          exact Jj15 _ _ h
        · refine G.iinc u4 (w := (u4 + (8 : Int32))) (lv' := [(1, .int (u4 + (8 : Int32))), (0, .int u3)]) dJ6_numberOfTrailingZeros_0f7a4_41 rfl rfl (Nat.le_of_ble_eq_true rfl) rfl ?_
          refine G.iload_n dJ6_numberOfTrailingZeros_0f7a4_44 rfl rfl ?_
          refine G.bipush (8 : Int32) dJ6_numberOfTrailingZeros_0f7a4_45 kb_8 ?_
          refine G.iushr dJ6_numberOfTrailingZeros_0f7a4_47 ?_
          refine G.istore_n (lv' := [(0, .int (ush u3 (8 : Int32))), (1, .int (u4 + (8 : Int32)))]) dJ6_numberOfTrailingZeros_0f7a4_48 rfl (Nat.le_of_ble_eq_true rfl) rfl ?_
          refine G.sub (lv' := [(0, .int (ush u3 (8 : Int32))), (1, .int (u4 + (8 : Int32)))]) [0, 1] rfl ?_
          exact Jj15 _ _ h
    · intro j17 Jj17 h
      refine G.icmp_le 34 dJ6_numberOfTrailingZeros_0f7a4_23 (by decide) h (fun c18 h => ?_) (fun c18 h => ?_)
      · refine G.sub (lv' := [(0, .int w1), (1, .int (1 : Int32))]) [1, 0] rfl ?_
        exact Jj17 _ _ h
      · refine G.iinc (1 : Int32) (w := ((1 : Int32) + (16 : Int32))) (lv' := [(1, .int ((1 : Int32) + (16 : Int32))), (0, .int w1)]) dJ6_numberOfTrailingZeros_0f7a4_26 rfl rfl (Nat.le_of_ble_eq_true rfl) rfl ?_
        refine G.iload_n dJ6_numberOfTrailingZeros_0f7a4_29 rfl rfl ?_
        refine G.bipush (16 : Int32) dJ6_numberOfTrailingZeros_0f7a4_30 kb_16 ?_
        refine G.iushr dJ6_numberOfTrailingZeros_0f7a4_32 ?_
        refine G.istore_n (lv' := [(0, .int (ush w1 (16 : Int32))), (1, .int ((1 : Int32) + (16 : Int32)))]) dJ6_numberOfTrailingZeros_0f7a4_33 rfl (Nat.le_of_ble_eq_true rfl) rfl ?_
        refine G.sub (lv' := [(0, .int (ush w1 (16 : Int32))), (1, .int ((1 : Int32) + (16 : Int32)))]) [0, 1] rfl ?_
        exact Jj17 _ _ h
  · refine G.iload_n dJ6_numberOfTrailingZeros_0f7a4_12 rfl rfl ?_
    refine G.bipush (32 : Int32) dJ6_numberOfTrailingZeros_0f7a4_13 kb_32 ?_
    refine G.iand dJ6_numberOfTrailingZeros_0f7a4_15 ?_
    exact G.iret dJ6_numberOfTrailingZeros_0f7a4_16 rfl (rfl) h
-- OnlyUpwardModel.isCheap(IIII)Z
set_option maxRecDepth 100000 in
set_option maxHeartbeats 4000000 in
def F_X12_isCheap (n : Nat) (M : AM) (a0 : Nat) (a1 : Int32) (a2 : Int32) (a3 : Int32) (a4 : Int32) : Option Int32 :=
  (rcv 12 M a0 (F_X12_isPerson n M a0 a1)).bind fun v1 => if v1 = 0 then some (0 : Int32) else (rcv 12 M a0 (F_X12_isSoon n M a0 a2 a3 a4 (0 : Int32))).bind fun v3 => if v3 = 0 then some (0 : Int32) else some (1 : Int32)
set_option maxRecDepth 100000 in
set_option maxHeartbeats 4000000 in
theorem C_X12_isCheap {n : Nat} {M : AM} {a0 : Nat} {a1 : Int32} {a2 : Int32} {a3 : Int32} {a4 : Int32} {o : Int32} (h : F_X12_isCheap n M a0 a1 a2 a3 a4 = some o) : Cn yX12_isCheap cX12_isCheap 5 (some .boolean) 3 [.ref a0, .int a1, .int a2, .int a3, .int a4] M (some (.int o)) M := by
  unfold F_X12_isCheap at h
  refine Cn.of rfl (Nat.le_of_ble_eq_true rfl) ?_
  show G yX12_isCheap cX12_isCheap 5 (some .boolean) 3 0 [(0, .ref a0), (1, .int a1), (2, .int a2), (3, .int a3), (4, .int a4)] [] M (some (.int o)) M
  refine G.aload_n dX12_isCheap_0 rfl rfl ?_
  refine G.iload_n dX12_isCheap_1 rfl rfl ?_
  refine G.callVi (ci := 12) [.int a1] [] dX12_isCheap_2 lkX12_415 okX12_isPerson rfl (fun v hv => C_X12_isPerson hv) (Nat.le_of_ble_eq_true rfl) rfl rfl (Nat.le_of_ble_eq_true rfl) h (fun v1 h => ?_)
  refine G.if_eq 24 dX12_isCheap_5 (by decide) h (fun c2 h => ?_) (fun c2 h => ?_)
  · refine G.iconst (0 : Int32) dX12_isCheap_24 ki_0 ?_
    exact G.iret dX12_isCheap_25 rfl (by decide) h
  · refine G.aload_n dX12_isCheap_8 rfl rfl ?_
    refine G.iload_n dX12_isCheap_9 rfl rfl ?_
    refine G.iload_n dX12_isCheap_10 rfl rfl ?_
    refine G.iload dX12_isCheap_11 rfl ?_
    refine G.iconst (0 : Int32) dX12_isCheap_13 ki_0 ?_
    refine G.callVi (ci := 12) [.int a2, .int a3, .int a4, .int (0 : Int32)] [] dX12_isCheap_14 lkX12_487 okX12_isSoon rfl (fun v hv => C_X12_isSoon hv) (Nat.le_of_ble_eq_true rfl) rfl rfl (Nat.le_of_ble_eq_true rfl) h (fun v3 h => ?_)
    refine G.if_eq 24 dX12_isCheap_17 (by decide) h (fun c4 h => ?_) (fun c4 h => ?_)
    · refine G.iconst (0 : Int32) dX12_isCheap_24 ki_0 ?_
      exact G.iret dX12_isCheap_25 rfl (by decide) h
    · refine G.iconst (1 : Int32) dX12_isCheap_20 ki_1 ?_
      refine G.goto 25 dX12_isCheap_21 (by decide) ?_
      exact G.iret dX12_isCheap_25 rfl (by decide) h
-- OnlyUpwardModel.option(IIII)V
set_option maxRecDepth 100000 in
set_option maxHeartbeats 4000000 in
def F_X12_option (n : Nat) (M : AM) (a0 : Nat) (a1 : Int32) (a2 : Int32) (a3 : Int32) (a4 : Int32) : Option AM :=
  (gR 12 77 M a0).bind fun v1 => (gI 12 76 M a0).bind fun v2 => (wrI M v1 v2 a1).bind fun M3 => (gR 12 78 M3 a0).bind fun v4 => (gI 12 76 M3 a0).bind fun v5 => (wrI M3 v4 v5 a2).bind fun M6 => (gR 12 79 M6 a0).bind fun v7 => (gI 12 76 M6 a0).bind fun v8 => (wrI M6 v7 v8 a3).bind fun M9 => (gR 12 80 M9 a0).bind fun v10 => (gI 12 76 M9 a0).bind fun v11 => (wrI M9 v10 v11 a4).bind fun M12 => (gI 12 76 M12 a0).bind fun v13 => (pI 12 76 M12 a0 (v13 + (1 : Int32))).bind fun M14 => some M14
set_option maxRecDepth 100000 in
set_option maxHeartbeats 4000000 in
theorem C_X12_option {n : Nat} {M : AM} {a0 : Nat} {a1 : Int32} {a2 : Int32} {a3 : Int32} {a4 : Int32} {o : AM} (h : F_X12_option n M a0 a1 a2 a3 a4 = some o) : Cn yX12_option cX12_option 5 none 0 [.ref a0, .int a1, .int a2, .int a3, .int a4] M none o := by
  unfold F_X12_option at h
  refine Cn.of rfl (Nat.le_of_ble_eq_true rfl) ?_
  show G yX12_option cX12_option 5 none 0 0 [(0, .ref a0), (1, .int a1), (2, .int a2), (3, .int a3), (4, .int a4)] [] M none o
  refine G.aload_n dX12_option_0 rfl rfl ?_
  refine G.getR dX12_option_1 fkX12_185 fr12_77 h (fun v1 h => ?_)
  refine G.aload_n dX12_option_4 rfl rfl ?_
  refine G.getI dX12_option_5 fkX12_498 fr12_76 h (fun v2 h => ?_)
  refine G.iload_n dX12_option_8 rfl rfl ?_
  refine G.iast dX12_option_9 h (fun M3 h => ?_)
  refine G.aload_n dX12_option_10 rfl rfl ?_
  refine G.getR dX12_option_11 fkX12_188 fr12_78 h (fun v4 h => ?_)
  refine G.aload_n dX12_option_14 rfl rfl ?_
  refine G.getI dX12_option_15 fkX12_498 fr12_76 h (fun v5 h => ?_)
  refine G.iload_n dX12_option_18 rfl rfl ?_
  refine G.iast dX12_option_19 h (fun M6 h => ?_)
  refine G.aload_n dX12_option_20 rfl rfl ?_
  refine G.getR dX12_option_21 fkX12_191 fr12_79 h (fun v7 h => ?_)
  refine G.aload_n dX12_option_24 rfl rfl ?_
  refine G.getI dX12_option_25 fkX12_498 fr12_76 h (fun v8 h => ?_)
  refine G.iload_n dX12_option_28 rfl rfl ?_
  refine G.iast dX12_option_29 h (fun M9 h => ?_)
  refine G.aload_n dX12_option_30 rfl rfl ?_
  refine G.getR dX12_option_31 fkX12_194 fr12_80 h (fun v10 h => ?_)
  refine G.aload_n dX12_option_34 rfl rfl ?_
  refine G.getI dX12_option_35 fkX12_498 fr12_76 h (fun v11 h => ?_)
  refine G.iload dX12_option_38 rfl ?_
  refine G.iast dX12_option_40 h (fun M12 h => ?_)
  refine G.aload_n dX12_option_41 rfl rfl ?_
  refine G.dup dX12_option_42 rfl ?_
  refine G.getI dX12_option_43 fkX12_498 fr12_76 h (fun v13 h => ?_)
  refine G.iconst (1 : Int32) dX12_option_46 ki_1 ?_
  refine G.iadd dX12_option_47 ?_
  refine G.putI dX12_option_48 fkX12_498 nf12_76 ft12_76 h (fun M14 h => ?_)
  exact G.vretW dX12_option_51 rfl h
-- OnlyUpwardModel.optionsAt(II)V
set_option maxRecDepth 100000 in
set_option maxHeartbeats 4000000 in
def F_X12_optionsAt (n : Nat) (M : AM) (a0 : Nat) (a1 : Int32) (a2 : Int32) : Option AM :=
  (pI 12 76 M a0 (0 : Int32)).bind fun M1 => (iter (fun (s2 : Int32 × AM) => (rcv 12 s2.2 a0 (F_X12_has n s2.2 a0 (1 : Int32))).bind fun v3 => if v3 ≤ s2.1 then some (.inr s2.2) else (iter (fun (s5 : Int32 × AM) => (rcv 12 s5.2 a0 (F_X12_has n s5.2 a0 (1 : Int32))).bind fun v6 => if v6 ≤ s5.1 then some (.inr s5.2) else (rcv 12 s5.2 a0 (F_X12_mayBy n s5.2 a0 s2.1 s5.1 a1 (0 : Int32) (0 : Int32))).bind fun v8 => jn (fun (M9 : AM) => some (.inl ((s5.1 + (1 : Int32)), M9))) fun j10 => if v8.1 = 0 then j10 v8.2 else (rcv 12 v8.2 a0 (F_X12_placeOf n v8.2 a0 s2.1 a1)).bind fun v12 => (rcv 12 v8.2 a0 (F_X12_earshotOf n v8.2 a0 v12 a1)).bind fun v13 => (rcv 12 v8.2 a0 (F_X12_option n v8.2 a0 (0 : Int32) s2.1 s5.1 v13)).bind fun M15 => j10 M15) n ((0 : Int32), s2.2)).bind fun (e5 : AM) => some (.inl ((s2.1 + (1 : Int32)), e5))) n ((0 : Int32), M1)).bind fun (e2 : AM) => (iter (fun (s16 : Int32 × AM) => (rcv 12 s16.2 a0 (F_X12_has n s16.2 a0 (1 : Int32))).bind fun v17 => if v17 ≤ s16.1 then some (.inr s16.2) else (iter (fun (s19 : Int32 × AM) => (rcv 12 s19.2 a0 (F_X12_has n s19.2 a0 (7 : Int32))).bind fun v20 => if v20 ≤ s19.1 then some (.inr s19.2) else (gR 12 40 s19.2 a0).bind fun v22 => (gI 12 18 s19.2 a0).bind fun v23 => (rdI s19.2 v22 (((6 : Int32) * v23) + s19.1)).bind fun v24 => jn (fun (M25 : AM) => some (.inl ((s19.1 + (1 : Int32)), M25))) fun j26 => if v24 = a2 then (rcv 12 s19.2 a0 (F_X12_placeOf n s19.2 a0 s16.1 a1)).bind fun v28 => if 0 ≤ v28 then (rcv 12 s19.2 a0 (F_X12_placeOf n s19.2 a0 s16.1 a1)).bind fun v30 => (rcv 12 s19.2 a0 (F_X12_crowdAt n s19.2 a0 v30 a1)).bind fun v31 => (rcv 12 s19.2 a0 (F_X12_option n s19.2 a0 (1 : Int32) s16.1 s19.1 v31)).bind fun M33 => j26 M33 else j26 s19.2 else j26 s19.2) n ((0 : Int32), s16.2)).bind fun (e19 : AM) => some (.inl ((s16.1 + (1 : Int32)), e19))) n ((0 : Int32), e2)).bind fun (e16 : AM) => some e16
set_option maxRecDepth 100000 in
set_option maxHeartbeats 4000000 in
theorem C_X12_optionsAt {n : Nat} {M : AM} {a0 : Nat} {a1 : Int32} {a2 : Int32} {o : AM} (h : F_X12_optionsAt n M a0 a1 a2 = some o) : Cn yX12_optionsAt cX12_optionsAt 5 none 4 [.ref a0, .int a1, .int a2] M none o := by
  unfold F_X12_optionsAt at h
  refine Cn.of rfl (Nat.le_of_ble_eq_true rfl) ?_
  show G yX12_optionsAt cX12_optionsAt 5 none 4 0 [(0, .ref a0), (1, .int a1), (2, .int a2)] [] M none o
  refine G.aload_n dX12_optionsAt_0 rfl rfl ?_
  refine G.iconst (0 : Int32) dX12_optionsAt_1 ki_0 ?_
  refine G.putI dX12_optionsAt_2 fkX12_498 nf12_76 ft12_76 h (fun M1 h => ?_)
  refine G.iconst (0 : Int32) dX12_optionsAt_5 ki_0 ?_
  refine G.istore_n (lv' := [(3, .int (0 : Int32)), (0, .ref a0), (1, .int a1), (2, .int a2)]) dX12_optionsAt_6 rfl (Nat.le_of_ble_eq_true rfl) rfl ?_
  refine G.sub (lv' := [(0, .ref a0), (1, .int a1), (2, .int a2), (3, .int (0 : Int32))]) [1, 2, 3, 0] rfl ?_
  refine loopE (fun (s2 : Int32 × AM) => G yX12_optionsAt cX12_optionsAt 5 none 4 7 [(0, .ref a0), (1, .int a1), (2, .int a2), (3, .int s2.1)] [] s2.2 none o) (fun (e2 : AM) => G yX12_optionsAt cX12_optionsAt 5 none 4 76 [(0, .ref a0), (1, .int a1), (2, .int a2)] [] e2 none o) h ?_ ?_
  · intro e2 h
    show G yX12_optionsAt cX12_optionsAt 5 none 4 76 [(0, .ref a0), (1, .int a1), (2, .int a2)] [] e2 none o
    refine G.iconst (0 : Int32) dX12_optionsAt_76 ki_0 ?_
    refine G.istore_n (lv' := [(3, .int (0 : Int32)), (0, .ref a0), (1, .int a1), (2, .int a2)]) dX12_optionsAt_77 rfl (Nat.le_of_ble_eq_true rfl) rfl ?_
    refine G.sub (lv' := [(0, .ref a0), (1, .int a1), (2, .int a2), (3, .int (0 : Int32))]) [1, 2, 3, 0] rfl ?_
    refine loopE (fun (s16 : Int32 × AM) => G yX12_optionsAt cX12_optionsAt 5 none 4 78 [(0, .ref a0), (1, .int a1), (2, .int a2), (3, .int s16.1)] [] s16.2 none o) (fun (e16 : AM) => G yX12_optionsAt cX12_optionsAt 5 none 4 163 [] [] e16 none o) h ?_ ?_
    · intro e16 h
      show G yX12_optionsAt cX12_optionsAt 5 none 4 163 [] [] e16 none o
      exact G.vretW dX12_optionsAt_163 rfl h
    · intro s16 x16 h K16
      show G yX12_optionsAt cX12_optionsAt 5 none 4 78 [(0, .ref a0), (1, .int a1), (2, .int a2), (3, .int s16.1)] [] s16.2 none o
      refine G.iload_n dX12_optionsAt_78 rfl rfl ?_
      refine G.aload_n dX12_optionsAt_79 rfl rfl ?_
      refine G.iconst (1 : Int32) dX12_optionsAt_80 ki_1 ?_
      refine G.callVi (ci := 12) [.int (1 : Int32)] [.int s16.1] dX12_optionsAt_81 lkX12_383 okX12_has rfl (fun v hv => C_X12_has hv) (Nat.le_of_ble_eq_true rfl) rfl rfl (Nat.le_of_ble_eq_true rfl) h (fun v17 h => ?_)
      refine G.icmp_ge 163 dX12_optionsAt_84 (by decide) h (fun c18 h => ?_) (fun c18 h => ?_)
      · refine G.sub (lv' := []) [] rfl ?_
        have h := leafR' h K16
        exact h
      · refine G.iconst (0 : Int32) dX12_optionsAt_87 ki_0 ?_
        refine G.istore (lv' := [(4, .int (0 : Int32)), (0, .ref a0), (1, .int a1), (2, .int a2), (3, .int s16.1)]) dX12_optionsAt_88 (Nat.le_of_ble_eq_true rfl) rfl ?_
        refine G.sub (lv' := [(0, .ref a0), (1, .int a1), (2, .int a2), (3, .int s16.1), (4, .int (0 : Int32))]) [1, 2, 3, 4, 0] rfl ?_
        refine loopE (fun (s19 : Int32 × AM) => G yX12_optionsAt cX12_optionsAt 5 none 4 90 [(0, .ref a0), (1, .int a1), (2, .int a2), (3, .int s16.1), (4, .int s19.1)] [] s19.2 none o) (fun (e19 : AM) => G yX12_optionsAt cX12_optionsAt 5 none 4 157 [(0, .ref a0), (1, .int a1), (2, .int a2), (3, .int s16.1)] [] e19 none o) h ?_ ?_
        · intro e19 h
          show G yX12_optionsAt cX12_optionsAt 5 none 4 157 [(0, .ref a0), (1, .int a1), (2, .int a2), (3, .int s16.1)] [] e19 none o
          refine G.iinc s16.1 (w := (s16.1 + (1 : Int32))) (lv' := [(3, .int (s16.1 + (1 : Int32))), (0, .ref a0), (1, .int a1), (2, .int a2)]) dX12_optionsAt_157 rfl rfl (Nat.le_of_ble_eq_true rfl) rfl ?_
          refine G.goto 78 dX12_optionsAt_160 (by decide) ?_
          refine G.sub (lv' := [(0, .ref a0), (1, .int a1), (2, .int a2), (3, .int (s16.1 + (1 : Int32)))]) [1, 2, 3, 0] rfl ?_
          have h := leafL' h K16
          exact h
        · intro s19 x19 h K19
          show G yX12_optionsAt cX12_optionsAt 5 none 4 90 [(0, .ref a0), (1, .int a1), (2, .int a2), (3, .int s16.1), (4, .int s19.1)] [] s19.2 none o
          refine G.iload dX12_optionsAt_90 rfl ?_
          refine G.aload_n dX12_optionsAt_92 rfl rfl ?_
          refine G.bipush (7 : Int32) dX12_optionsAt_93 kb_7 ?_
          refine G.callVi (ci := 12) [.int (7 : Int32)] [.int s19.1] dX12_optionsAt_95 lkX12_383 okX12_has rfl (fun v hv => C_X12_has hv) (Nat.le_of_ble_eq_true rfl) rfl rfl (Nat.le_of_ble_eq_true rfl) h (fun v20 h => ?_)
          refine G.icmp_ge 157 dX12_optionsAt_98 (by decide) h (fun c21 h => ?_) (fun c21 h => ?_)
          · refine G.sub (lv' := [(0, .ref a0), (1, .int a1), (2, .int a2), (3, .int s16.1)]) [0, 1, 2, 3] rfl ?_
            have h := leafR' h K19
            exact h
          · refine G.aload_n dX12_optionsAt_101 rfl rfl ?_
            refine G.getR dX12_optionsAt_102 fkX12_97 fr12_40 h (fun v22 h => ?_)
            refine G.bipush (6 : Int32) dX12_optionsAt_105 kb_6 ?_
            refine G.aload_n dX12_optionsAt_107 rfl rfl ?_
            refine G.getI dX12_optionsAt_108 fkX12_290 fr12_18 h (fun v23 h => ?_)
            refine G.imul dX12_optionsAt_111 ?_
            refine G.iload dX12_optionsAt_112 rfl ?_
            refine G.iadd dX12_optionsAt_114 ?_
            refine G.iald dX12_optionsAt_115 h (fun v24 h => ?_)
            refine G.iload_n dX12_optionsAt_116 rfl rfl ?_
            refine jn_elim (fun j26 => ∀ (M25 : AM), j26 M25 = some x19 → G yX12_optionsAt cX12_optionsAt 5 none 4 151 [(0, .ref a0), (1, .int a1), (2, .int a2), (3, .int s16.1), (4, .int s19.1)] [] M25 none o) h ?_ ?_
            · intro M25 h
              refine G.iinc s19.1 (w := (s19.1 + (1 : Int32))) (lv' := [(4, .int (s19.1 + (1 : Int32))), (0, .ref a0), (1, .int a1), (2, .int a2), (3, .int s16.1)]) dX12_optionsAt_151 rfl rfl (Nat.le_of_ble_eq_true rfl) rfl ?_
              refine G.goto 90 dX12_optionsAt_154 (by decide) ?_
              refine G.sub (lv' := [(0, .ref a0), (1, .int a1), (2, .int a2), (3, .int s16.1), (4, .int (s19.1 + (1 : Int32)))]) [1, 2, 3, 4, 0] rfl ?_
              have h := leafL' h K19
              exact h
            · intro j26 Jj26 h
              refine G.icmp_ne 151 dX12_optionsAt_117 (by decide) h (fun c27 h => ?_) (fun c27 h => ?_)
              · refine G.aload_n dX12_optionsAt_120 rfl rfl ?_
                refine G.iload_n dX12_optionsAt_121 rfl rfl ?_
                refine G.iload_n dX12_optionsAt_122 rfl rfl ?_
                refine G.callVi (ci := 12) [.int s16.1, .int a1] [] dX12_optionsAt_123 lkX12_396 okX12_placeOf rfl (fun v hv => C_X12_placeOf hv) (Nat.le_of_ble_eq_true rfl) rfl rfl (Nat.le_of_ble_eq_true rfl) h (fun v28 h => ?_)
                refine G.if_ge 132 dX12_optionsAt_126 (by decide) h (fun c29 h => ?_) (fun c29 h => ?_)
                · refine G.aload_n dX12_optionsAt_132 rfl rfl ?_
                  refine G.iconst (1 : Int32) dX12_optionsAt_133 ki_1 ?_
                  refine G.iload_n dX12_optionsAt_134 rfl rfl ?_
                  refine G.iload dX12_optionsAt_135 rfl ?_
                  refine G.aload_n dX12_optionsAt_137 rfl rfl ?_
                  refine G.aload_n dX12_optionsAt_138 rfl rfl ?_
                  refine G.iload_n dX12_optionsAt_139 rfl rfl ?_
                  refine G.iload_n dX12_optionsAt_140 rfl rfl ?_
                  refine G.callVi (ci := 12) [.int s16.1, .int a1] [.ref a0, .int s19.1, .int s16.1, .int (1 : Int32), .ref a0] dX12_optionsAt_141 lkX12_396 okX12_placeOf rfl (fun v hv => C_X12_placeOf hv) (Nat.le_of_ble_eq_true rfl) rfl rfl (Nat.le_of_ble_eq_true rfl) h (fun v30 h => ?_)
                  refine G.iload_n dX12_optionsAt_144 rfl rfl ?_
                  refine G.callVi (ci := 12) [.int v30, .int a1] [.int s19.1, .int s16.1, .int (1 : Int32), .ref a0] dX12_optionsAt_145 lkX12_406 okX12_crowdAt rfl (fun v hv => C_X12_crowdAt hv) (Nat.le_of_ble_eq_true rfl) rfl rfl (Nat.le_of_ble_eq_true rfl) h (fun v31 h => ?_)
                  refine G.callVv (ci := 12) [.int (1 : Int32), .int s16.1, .int s19.1, .int v31] [] dX12_optionsAt_148 lkX12_501 okX12_option rfl (fun v hv => C_X12_option hv) (Nat.le_of_ble_eq_true rfl) rfl rfl (Nat.le_of_ble_eq_true rfl) h (fun M33 h => ?_)
                  refine G.sub (lv' := [(0, .ref a0), (1, .int a1), (2, .int a2), (3, .int s16.1), (4, .int s19.1)]) [0, 1, 2, 3, 4] rfl ?_
                  exact Jj26 _ h
                · refine G.goto 151 dX12_optionsAt_129 (by decide) ?_
                  refine G.sub (lv' := [(0, .ref a0), (1, .int a1), (2, .int a2), (3, .int s16.1), (4, .int s19.1)]) [0, 1, 2, 3, 4] rfl ?_
                  exact Jj26 _ h
              · refine G.sub (lv' := [(0, .ref a0), (1, .int a1), (2, .int a2), (3, .int s16.1), (4, .int s19.1)]) [0, 1, 2, 3, 4] rfl ?_
                exact Jj26 _ h
  · intro s2 x2 h K2
    show G yX12_optionsAt cX12_optionsAt 5 none 4 7 [(0, .ref a0), (1, .int a1), (2, .int a2), (3, .int s2.1)] [] s2.2 none o
    refine G.iload_n dX12_optionsAt_7 rfl rfl ?_
    refine G.aload_n dX12_optionsAt_8 rfl rfl ?_
    refine G.iconst (1 : Int32) dX12_optionsAt_9 ki_1 ?_
    refine G.callVi (ci := 12) [.int (1 : Int32)] [.int s2.1] dX12_optionsAt_10 lkX12_383 okX12_has rfl (fun v hv => C_X12_has hv) (Nat.le_of_ble_eq_true rfl) rfl rfl (Nat.le_of_ble_eq_true rfl) h (fun v3 h => ?_)
    refine G.icmp_ge 76 dX12_optionsAt_13 (by decide) h (fun c4 h => ?_) (fun c4 h => ?_)
    · refine G.sub (lv' := [(0, .ref a0), (1, .int a1), (2, .int a2)]) [0, 1, 2] rfl ?_
      have h := leafR' h K2
      exact h
    · refine G.iconst (0 : Int32) dX12_optionsAt_16 ki_0 ?_
      refine G.istore (lv' := [(4, .int (0 : Int32)), (0, .ref a0), (1, .int a1), (2, .int a2), (3, .int s2.1)]) dX12_optionsAt_17 (Nat.le_of_ble_eq_true rfl) rfl ?_
      refine G.sub (lv' := [(0, .ref a0), (1, .int a1), (2, .int a2), (3, .int s2.1), (4, .int (0 : Int32))]) [1, 2, 3, 4, 0] rfl ?_
      refine loopE (fun (s5 : Int32 × AM) => G yX12_optionsAt cX12_optionsAt 5 none 4 19 [(0, .ref a0), (1, .int a1), (2, .int a2), (3, .int s2.1), (4, .int s5.1)] [] s5.2 none o) (fun (e5 : AM) => G yX12_optionsAt cX12_optionsAt 5 none 4 70 [(0, .ref a0), (1, .int a1), (2, .int a2), (3, .int s2.1)] [] e5 none o) h ?_ ?_
      · intro e5 h
        show G yX12_optionsAt cX12_optionsAt 5 none 4 70 [(0, .ref a0), (1, .int a1), (2, .int a2), (3, .int s2.1)] [] e5 none o
        refine G.iinc s2.1 (w := (s2.1 + (1 : Int32))) (lv' := [(3, .int (s2.1 + (1 : Int32))), (0, .ref a0), (1, .int a1), (2, .int a2)]) dX12_optionsAt_70 rfl rfl (Nat.le_of_ble_eq_true rfl) rfl ?_
        refine G.goto 7 dX12_optionsAt_73 (by decide) ?_
        refine G.sub (lv' := [(0, .ref a0), (1, .int a1), (2, .int a2), (3, .int (s2.1 + (1 : Int32)))]) [1, 2, 3, 0] rfl ?_
        have h := leafL' h K2
        exact h
      · intro s5 x5 h K5
        show G yX12_optionsAt cX12_optionsAt 5 none 4 19 [(0, .ref a0), (1, .int a1), (2, .int a2), (3, .int s2.1), (4, .int s5.1)] [] s5.2 none o
        refine G.iload dX12_optionsAt_19 rfl ?_
        refine G.aload_n dX12_optionsAt_21 rfl rfl ?_
        refine G.iconst (1 : Int32) dX12_optionsAt_22 ki_1 ?_
        refine G.callVi (ci := 12) [.int (1 : Int32)] [.int s5.1] dX12_optionsAt_23 lkX12_383 okX12_has rfl (fun v hv => C_X12_has hv) (Nat.le_of_ble_eq_true rfl) rfl rfl (Nat.le_of_ble_eq_true rfl) h (fun v6 h => ?_)
        refine G.icmp_ge 70 dX12_optionsAt_26 (by decide) h (fun c7 h => ?_) (fun c7 h => ?_)
        · refine G.sub (lv' := [(0, .ref a0), (1, .int a1), (2, .int a2), (3, .int s2.1)]) [0, 1, 2, 3] rfl ?_
          have h := leafR' h K5
          exact h
        · refine G.aload_n dX12_optionsAt_29 rfl rfl ?_
          refine G.iload_n dX12_optionsAt_30 rfl rfl ?_
          refine G.iload dX12_optionsAt_31 rfl ?_
          refine G.iload_n dX12_optionsAt_33 rfl rfl ?_
          refine G.iconst (0 : Int32) dX12_optionsAt_34 ki_0 ?_
          refine G.iconst (0 : Int32) dX12_optionsAt_35 ki_0 ?_
          refine G.callVi (ci := 12) [.int s2.1, .int s5.1, .int a1, .int (0 : Int32), .int (0 : Int32)] [] dX12_optionsAt_36 lkX12_427 okX12_mayBy rfl (fun v hv => C_X12_mayBy hv) (Nat.le_of_ble_eq_true rfl) rfl rfl (Nat.le_of_ble_eq_true rfl) h (fun v8 h => ?_)
          refine jn_elim (fun j10 => ∀ (M9 : AM), j10 M9 = some x5 → G yX12_optionsAt cX12_optionsAt 5 none 4 64 [(0, .ref a0), (1, .int a1), (2, .int a2), (3, .int s2.1), (4, .int s5.1)] [] M9 none o) h ?_ ?_
          · intro M9 h
            refine G.iinc s5.1 (w := (s5.1 + (1 : Int32))) (lv' := [(4, .int (s5.1 + (1 : Int32))), (0, .ref a0), (1, .int a1), (2, .int a2), (3, .int s2.1)]) dX12_optionsAt_64 rfl rfl (Nat.le_of_ble_eq_true rfl) rfl ?_
            refine G.goto 19 dX12_optionsAt_67 (by decide) ?_
            refine G.sub (lv' := [(0, .ref a0), (1, .int a1), (2, .int a2), (3, .int s2.1), (4, .int (s5.1 + (1 : Int32)))]) [1, 2, 3, 4, 0] rfl ?_
            have h := leafL' h K5
            exact h
          · intro j10 Jj10 h
            refine G.if_ne 45 dX12_optionsAt_39 (by decide) h (fun c11 h => ?_) (fun c11 h => ?_)
            · refine G.goto 64 dX12_optionsAt_42 (by decide) ?_
              refine G.sub (lv' := [(0, .ref a0), (1, .int a1), (2, .int a2), (3, .int s2.1), (4, .int s5.1)]) [0, 1, 2, 3, 4] rfl ?_
              exact Jj10 _ h
            · refine G.aload_n dX12_optionsAt_45 rfl rfl ?_
              refine G.iconst (0 : Int32) dX12_optionsAt_46 ki_0 ?_
              refine G.iload_n dX12_optionsAt_47 rfl rfl ?_
              refine G.iload dX12_optionsAt_48 rfl ?_
              refine G.aload_n dX12_optionsAt_50 rfl rfl ?_
              refine G.aload_n dX12_optionsAt_51 rfl rfl ?_
              refine G.iload_n dX12_optionsAt_52 rfl rfl ?_
              refine G.iload_n dX12_optionsAt_53 rfl rfl ?_
              refine G.callVi (ci := 12) [.int s2.1, .int a1] [.ref a0, .int s5.1, .int s2.1, .int (0 : Int32), .ref a0] dX12_optionsAt_54 lkX12_396 okX12_placeOf rfl (fun v hv => C_X12_placeOf hv) (Nat.le_of_ble_eq_true rfl) rfl rfl (Nat.le_of_ble_eq_true rfl) h (fun v12 h => ?_)
              refine G.iload_n dX12_optionsAt_57 rfl rfl ?_
              refine G.callVi (ci := 12) [.int v12, .int a1] [.int s5.1, .int s2.1, .int (0 : Int32), .ref a0] dX12_optionsAt_58 lkX12_424 okX12_earshotOf rfl (fun v hv => C_X12_earshotOf hv) (Nat.le_of_ble_eq_true rfl) rfl rfl (Nat.le_of_ble_eq_true rfl) h (fun v13 h => ?_)
              refine G.callVv (ci := 12) [.int (0 : Int32), .int s2.1, .int s5.1, .int v13] [] dX12_optionsAt_61 lkX12_501 okX12_option rfl (fun v hv => C_X12_option hv) (Nat.le_of_ble_eq_true rfl) rfl rfl (Nat.le_of_ble_eq_true rfl) h (fun M15 h => ?_)
              refine G.sub (lv' := [(0, .ref a0), (1, .int a1), (2, .int a2), (3, .int s2.1), (4, .int s5.1)]) [0, 1, 2, 3, 4] rfl ?_
              exact Jj10 _ h
-- OnlyUpwardModel.canTake(II)Z
set_option maxRecDepth 100000 in
set_option maxHeartbeats 4000000 in
def F_X12_canTake (n : Nat) (M : AM) (a0 : Nat) (a1 : Int32) (a2 : Int32) : Option Int32 :=
  (gR 12 78 M a0).bind fun v1 => (rdI M v1 a1).bind fun v2 => if ((a2 >>> (v2 &&& 31)) &&& (1 : Int32)) = (1 : Int32) then some (1 : Int32) else some (0 : Int32)
set_option maxRecDepth 100000 in
set_option maxHeartbeats 4000000 in
theorem C_X12_canTake {n : Nat} {M : AM} {a0 : Nat} {a1 : Int32} {a2 : Int32} {o : Int32} (h : F_X12_canTake n M a0 a1 a2 = some o) : Cn yX12_canTake cX12_canTake 3 (some .boolean) 0 [.ref a0, .int a1, .int a2] M (some (.int o)) M := by
  unfold F_X12_canTake at h
  refine Cn.of rfl (Nat.le_of_ble_eq_true rfl) ?_
  show G yX12_canTake cX12_canTake 3 (some .boolean) 0 0 [(0, .ref a0), (1, .int a1), (2, .int a2)] [] M (some (.int o)) M
  refine G.iload_n dX12_canTake_0 rfl rfl ?_
  refine G.aload_n dX12_canTake_1 rfl rfl ?_
  refine G.getR dX12_canTake_2 fkX12_188 fr12_78 h (fun v1 h => ?_)
  refine G.iload_n dX12_canTake_5 rfl rfl ?_
  refine G.iald dX12_canTake_6 h (fun v2 h => ?_)
  refine G.ishr dX12_canTake_7 ?_
  refine G.iconst (1 : Int32) dX12_canTake_8 ki_1 ?_
  refine G.iand dX12_canTake_9 ?_
  refine G.iconst (1 : Int32) dX12_canTake_10 ki_1 ?_
  refine G.icmp_ne 18 dX12_canTake_11 (by decide) h (fun c3 h => ?_) (fun c3 h => ?_)
  · refine G.iconst (1 : Int32) dX12_canTake_14 ki_1 ?_
    refine G.goto 19 dX12_canTake_15 (by decide) ?_
    exact G.iret dX12_canTake_19 rfl (by decide) h
  · refine G.iconst (0 : Int32) dX12_canTake_18 ki_0 ?_
    exact G.iret dX12_canTake_19 rfl (by decide) h
-- OnlyUpwardModel.price(I)I
set_option maxRecDepth 100000 in
set_option maxHeartbeats 4000000 in
def F_X12_price (n : Nat) (M : AM) (a0 : Nat) (a1 : Int32) : Option Int32 :=
  (gR 12 77 M a0).bind fun v1 => (rdI M v1 a1).bind fun v2 => (gR 12 79 M a0).bind fun v3 => (rdI M v3 a1).bind fun v4 => (rcv 12 M a0 (F_X12_costOf n M a0 v2 v4)).bind fun v5 => some (((1000 : Int32) * v5) + (1 : Int32))
set_option maxRecDepth 100000 in
set_option maxHeartbeats 4000000 in
theorem C_X12_price {n : Nat} {M : AM} {a0 : Nat} {a1 : Int32} {o : Int32} (h : F_X12_price n M a0 a1 = some o) : Cn yX12_price cX12_price 2 (some .int) 1 [.ref a0, .int a1] M (some (.int o)) M := by
  unfold F_X12_price at h
  refine Cn.of rfl (Nat.le_of_ble_eq_true rfl) ?_
  show G yX12_price cX12_price 2 (some .int) 1 0 [(0, .ref a0), (1, .int a1)] [] M (some (.int o)) M
  refine G.sipush (1000 : Int32) dX12_price_0 ks_1000 ?_
  refine G.aload_n dX12_price_3 rfl rfl ?_
  refine G.aload_n dX12_price_4 rfl rfl ?_
  refine G.getR dX12_price_5 fkX12_185 fr12_77 h (fun v1 h => ?_)
  refine G.iload_n dX12_price_8 rfl rfl ?_
  refine G.iald dX12_price_9 h (fun v2 h => ?_)
  refine G.aload_n dX12_price_10 rfl rfl ?_
  refine G.getR dX12_price_11 fkX12_191 fr12_79 h (fun v3 h => ?_)
  refine G.iload_n dX12_price_14 rfl rfl ?_
  refine G.iald dX12_price_15 h (fun v4 h => ?_)
  refine G.callVi (ci := 12) [.int v2, .int v4] [.int (1000 : Int32)] dX12_price_16 lkX12_475 okX12_costOf rfl (fun v hv => C_X12_costOf hv) (Nat.le_of_ble_eq_true rfl) rfl rfl (Nat.le_of_ble_eq_true rfl) h (fun v5 h => ?_)
  refine G.imul dX12_price_19 ?_
  refine G.iconst (1 : Int32) dX12_price_20 ki_1 ?_
  refine G.iadd dX12_price_21 ?_
  exact G.iret dX12_price_22 rfl (rfl) h
-- OnlyUpwardModel.cheapens(III)V
set_option maxRecDepth 100000 in
set_option maxHeartbeats 4000000 in
def F_X12_cheapens (n : Nat) (M : AM) (a0 : Nat) (a1 : Int32) (a2 : Int32) (a3 : Int32) : Option AM :=
  (pI 12 61 M a0 (0 : Int32)).bind fun M1 => (rcv 12 M1 a0 (F_X12_has n M1 a0 (1 : Int32))).bind fun v2 => (iter (fun (s3 : Int32 × AM) => if s3.1 < a3 then some (.inr s3.2) else jn (fun (M5 : AM) => (iter (fun (s6 : Int32 × AM) => if ((1 : Int32) <<< (v2 &&& 31)) ≤ s6.1 then some (.inr s6.2) else jn (fun (u8 : Int32) => jn (fun (u9 : Int32) => (gR 12 75 s6.2 a0).bind fun v10 => (wrI s6.2 v10 (((1024 : Int32) * s3.1) + s6.1) u9).bind fun M11 => some (.inl ((s6.1 + (1 : Int32)), M11))) fun j12 => if (24 : Int32) ≤ s3.1 then j12 u8 else if ((s6.1 >>> (a1 &&& 31)) &&& (1 : Int32)) = 0 then (iter (fun (s15 : Int32 × Int32) => (gI 12 76 s6.2 a0).bind fun v16 => if v16 ≤ s15.2 then some (.inr s15.1) else (rcv 12 s6.2 a0 (F_X12_canTake n s6.2 a0 s15.2 s6.1)).bind fun v18 => jn (fun (u19 : Int32) => some (.inl (u19, (s15.2 + (1 : Int32))))) fun j20 => if v18 = 0 then j20 s15.1 else (gR 12 75 s6.2 a0).bind fun v22 => (gR 12 80 s6.2 a0).bind fun v23 => (rdI s6.2 v23 s15.2).bind fun v24 => (rdI s6.2 v22 ((((1024 : Int32) * s3.1) + (1024 : Int32)) + (s6.1 ||| v24))).bind fun v25 => if v25 = (-1 : Int32) then j20 s15.1 else jn ((rcv 12 s6.2 a0 (F_X12_price n s6.2 a0 s15.2)).bind fun v27 => j20 (v25 + v27)) fun j28 => if s15.1 = (-1 : Int32) then j28 else (rcv 12 s6.2 a0 (F_X12_price n s6.2 a0 s15.2)).bind fun v30 => if s15.1 ≤ (v25 + v30) then j20 s15.1 else j28) n (u8, (0 : Int32))).bind fun (e15 : Int32) => j12 e15 else j12 u8) fun j32 => if ((s6.1 >>> (a1 &&& 31)) &&& (1 : Int32)) = (1 : Int32) then j32 (0 : Int32) else if s3.1 = (24 : Int32) then j32 (-1 : Int32) else (gR 12 75 s6.2 a0).bind fun v35 => (rdI s6.2 v35 ((((1024 : Int32) * s3.1) + (1024 : Int32)) + s6.1)).bind fun v36 => j32 v36) n ((0 : Int32), M5)).bind fun (e6 : AM) => some (.inl ((s3.1 + (-1 : Int32)), e6))) fun j37 => if (24 : Int32) ≤ s3.1 then j37 s3.2 else (rcv 12 s3.2 a0 (F_X12_optionsAt n s3.2 a0 s3.1 a2)).bind fun M40 => j37 M40) n ((24 : Int32), M1)).bind fun (e3 : AM) => some e3
set_option maxRecDepth 100000 in
set_option maxHeartbeats 4000000 in
theorem C_X12_cheapens {n : Nat} {M : AM} {a0 : Nat} {a1 : Int32} {a2 : Int32} {a3 : Int32} {o : AM} (h : F_X12_cheapens n M a0 a1 a2 a3 = some o) : Cn yX12_cheapens cX12_cheapens 10 none 5 [.ref a0, .int a1, .int a2, .int a3] M none o := by
  unfold F_X12_cheapens at h
  refine Cn.of rfl (Nat.le_of_ble_eq_true rfl) ?_
  show G yX12_cheapens cX12_cheapens 10 none 5 0 [(0, .ref a0), (1, .int a1), (2, .int a2), (3, .int a3)] [] M none o
  refine G.aload_n dX12_cheapens_0 rfl rfl ?_
  refine G.iconst (0 : Int32) dX12_cheapens_1 ki_0 ?_
  refine G.putI dX12_cheapens_2 fkX12_390 nf12_61 ft12_61 h (fun M1 h => ?_)
  refine G.iconst (1 : Int32) dX12_cheapens_5 ki_1 ?_
  refine G.aload_n dX12_cheapens_6 rfl rfl ?_
  refine G.iconst (1 : Int32) dX12_cheapens_7 ki_1 ?_
  refine G.callVi (ci := 12) [.int (1 : Int32)] [.int (1 : Int32)] dX12_cheapens_8 lkX12_383 okX12_has rfl (fun v hv => C_X12_has hv) (Nat.le_of_ble_eq_true rfl) rfl rfl (Nat.le_of_ble_eq_true rfl) h (fun v2 h => ?_)
  refine G.ishl dX12_cheapens_11 ?_
  refine G.istore (lv' := [(4, .int ((1 : Int32) <<< (v2 &&& 31))), (0, .ref a0), (1, .int a1), (2, .int a2), (3, .int a3)]) dX12_cheapens_12 (Nat.le_of_ble_eq_true rfl) rfl ?_
  refine G.bipush (24 : Int32) dX12_cheapens_14 kb_24 ?_
  refine G.istore (lv' := [(5, .int (24 : Int32)), (4, .int ((1 : Int32) <<< (v2 &&& 31))), (0, .ref a0), (1, .int a1), (2, .int a2), (3, .int a3)]) dX12_cheapens_16 (Nat.le_of_ble_eq_true rfl) rfl ?_
  refine G.sub (lv' := [(0, .ref a0), (1, .int a1), (2, .int a2), (3, .int a3), (4, .int ((1 : Int32) <<< (v2 &&& 31))), (5, .int (24 : Int32))]) [2, 3, 4, 5, 1, 0] rfl ?_
  refine loopE (fun (s3 : Int32 × AM) => G yX12_cheapens cX12_cheapens 10 none 5 18 [(0, .ref a0), (1, .int a1), (2, .int a2), (3, .int a3), (4, .int ((1 : Int32) <<< (v2 &&& 31))), (5, .int s3.1)] [] s3.2 none o) (fun (e3 : AM) => G yX12_cheapens cX12_cheapens 10 none 5 234 [] [] e3 none o) h ?_ ?_
  · intro e3 h
    show G yX12_cheapens cX12_cheapens 10 none 5 234 [] [] e3 none o
    exact G.vretW dX12_cheapens_234 rfl h
  · intro s3 x3 h K3
    show G yX12_cheapens cX12_cheapens 10 none 5 18 [(0, .ref a0), (1, .int a1), (2, .int a2), (3, .int a3), (4, .int ((1 : Int32) <<< (v2 &&& 31))), (5, .int s3.1)] [] s3.2 none o
    refine G.iload dX12_cheapens_18 rfl ?_
    refine G.iload_n dX12_cheapens_20 rfl rfl ?_
    refine G.icmp_lt 234 dX12_cheapens_21 (by decide) h (fun c4 h => ?_) (fun c4 h => ?_)
    · refine G.sub (lv' := []) [] rfl ?_
      have h := leafR' h K3
      exact h
    · refine G.iload dX12_cheapens_24 rfl ?_
      refine G.bipush (24 : Int32) dX12_cheapens_26 kb_24 ?_
      refine jn_elim (fun j37 => ∀ (M5 : AM), j37 M5 = some x3 → G yX12_cheapens cX12_cheapens 10 none 5 38 [(0, .ref a0), (1, .int a1), (2, .int a2), (3, .int a3), (4, .int ((1 : Int32) <<< (v2 &&& 31))), (5, .int s3.1)] [] M5 none o) h ?_ ?_
      · intro M5 h
        refine G.iconst (0 : Int32) dX12_cheapens_38 ki_0 ?_
        refine G.istore (lv' := [(6, .int (0 : Int32)), (0, .ref a0), (1, .int a1), (2, .int a2), (3, .int a3), (4, .int ((1 : Int32) <<< (v2 &&& 31))), (5, .int s3.1)]) dX12_cheapens_39 (Nat.le_of_ble_eq_true rfl) rfl ?_
        refine G.sub (lv' := [(0, .ref a0), (1, .int a1), (2, .int a2), (3, .int a3), (4, .int ((1 : Int32) <<< (v2 &&& 31))), (5, .int s3.1), (6, .int (0 : Int32))]) [1, 2, 3, 4, 5, 6, 0] rfl ?_
        refine loopE (fun (s6 : Int32 × AM) => G yX12_cheapens cX12_cheapens 10 none 5 41 [(0, .ref a0), (1, .int a1), (2, .int a2), (3, .int a3), (4, .int ((1 : Int32) <<< (v2 &&& 31))), (5, .int s3.1), (6, .int s6.1)] [] s6.2 none o) (fun (e6 : AM) => G yX12_cheapens cX12_cheapens 10 none 5 228 [(0, .ref a0), (1, .int a1), (2, .int a2), (3, .int a3), (4, .int ((1 : Int32) <<< (v2 &&& 31))), (5, .int s3.1)] [] e6 none o) h ?_ ?_
        · intro e6 h
          show G yX12_cheapens cX12_cheapens 10 none 5 228 [(0, .ref a0), (1, .int a1), (2, .int a2), (3, .int a3), (4, .int ((1 : Int32) <<< (v2 &&& 31))), (5, .int s3.1)] [] e6 none o
          refine G.iinc s3.1 (w := (s3.1 + (-1 : Int32))) (lv' := [(5, .int (s3.1 + (-1 : Int32))), (0, .ref a0), (1, .int a1), (2, .int a2), (3, .int a3), (4, .int ((1 : Int32) <<< (v2 &&& 31)))]) dX12_cheapens_228 rfl rfl (Nat.le_of_ble_eq_true rfl) rfl ?_
          refine G.goto 18 dX12_cheapens_231 (by decide) ?_
          refine G.sub (lv' := [(0, .ref a0), (1, .int a1), (2, .int a2), (3, .int a3), (4, .int ((1 : Int32) <<< (v2 &&& 31))), (5, .int (s3.1 + (-1 : Int32)))]) [1, 2, 3, 4, 5, 0] rfl ?_
          have h := leafL' h K3
          exact h
        · intro s6 x6 h K6
          show G yX12_cheapens cX12_cheapens 10 none 5 41 [(0, .ref a0), (1, .int a1), (2, .int a2), (3, .int a3), (4, .int ((1 : Int32) <<< (v2 &&& 31))), (5, .int s3.1), (6, .int s6.1)] [] s6.2 none o
          refine G.iload dX12_cheapens_41 rfl ?_
          refine G.iload dX12_cheapens_43 rfl ?_
          refine G.icmp_ge 228 dX12_cheapens_45 (by decide) h (fun c7 h => ?_) (fun c7 h => ?_)
          · refine G.sub (lv' := [(0, .ref a0), (1, .int a1), (2, .int a2), (3, .int a3), (4, .int ((1 : Int32) <<< (v2 &&& 31))), (5, .int s3.1)]) [0, 1, 2, 3, 4, 5] rfl ?_
            have h := leafR' h K6
            exact h
          · refine G.iload dX12_cheapens_48 rfl ?_
            refine G.iload_n dX12_cheapens_50 rfl rfl ?_
            refine G.ishr dX12_cheapens_51 ?_
            refine G.iconst (1 : Int32) dX12_cheapens_52 ki_1 ?_
            refine G.iand dX12_cheapens_53 ?_
            refine G.iconst (1 : Int32) dX12_cheapens_54 ki_1 ?_
            refine jn_elim (fun j32 => ∀ (u8 : Int32), j32 u8 = some x6 → G yX12_cheapens cX12_cheapens 10 none 5 91 [(0, .ref a0), (1, .int a1), (2, .int a2), (3, .int a3), (4, .int ((1 : Int32) <<< (v2 &&& 31))), (5, .int s3.1), (6, .int s6.1)] [.int u8] s6.2 none o) h ?_ ?_
            · intro u8 h
              refine G.istore (lv' := [(7, .int u8), (0, .ref a0), (1, .int a1), (2, .int a2), (3, .int a3), (4, .int ((1 : Int32) <<< (v2 &&& 31))), (5, .int s3.1), (6, .int s6.1)]) dX12_cheapens_91 (Nat.le_of_ble_eq_true rfl) rfl ?_
              refine G.iload dX12_cheapens_93 rfl ?_
              refine G.bipush (24 : Int32) dX12_cheapens_95 kb_24 ?_
              refine jn_elim (fun j12 => ∀ (u9 : Int32), j12 u9 = some x6 → G yX12_cheapens cX12_cheapens 10 none 5 206 [(0, .ref a0), (1, .int a1), (2, .int a2), (3, .int a3), (4, .int ((1 : Int32) <<< (v2 &&& 31))), (5, .int s3.1), (6, .int s6.1), (7, .int u9)] [] s6.2 none o) h ?_ ?_
              · intro u9 h
                refine G.aload_n dX12_cheapens_206 rfl rfl ?_
                refine G.getR dX12_cheapens_207 fkX12_182 fr12_75 h (fun v10 h => ?_)
                refine G.sipush (1024 : Int32) dX12_cheapens_210 ks_1024 ?_
                refine G.iload dX12_cheapens_213 rfl ?_
                refine G.imul dX12_cheapens_215 ?_
                refine G.iload dX12_cheapens_216 rfl ?_
                refine G.iadd dX12_cheapens_218 ?_
                refine G.iload dX12_cheapens_219 rfl ?_
                refine G.iast dX12_cheapens_221 h (fun M11 h => ?_)
                refine G.iinc s6.1 (w := (s6.1 + (1 : Int32))) (lv' := [(6, .int (s6.1 + (1 : Int32))), (0, .ref a0), (1, .int a1), (2, .int a2), (3, .int a3), (4, .int ((1 : Int32) <<< (v2 &&& 31))), (5, .int s3.1), (7, .int u9)]) dX12_cheapens_222 rfl rfl (Nat.le_of_ble_eq_true rfl) rfl ?_
                refine G.goto 41 dX12_cheapens_225 (by decide) ?_
                refine G.sub (lv' := [(0, .ref a0), (1, .int a1), (2, .int a2), (3, .int a3), (4, .int ((1 : Int32) <<< (v2 &&& 31))), (5, .int s3.1), (6, .int (s6.1 + (1 : Int32)))]) [1, 2, 3, 4, 5, 6, 0] rfl ?_
                have h := leafL' h K6
                exact h
              · intro j12 Jj12 h
                refine G.icmp_ge 206 dX12_cheapens_97 (by decide) h (fun c13 h => ?_) (fun c13 h => ?_)
                · refine G.sub (lv' := [(0, .ref a0), (1, .int a1), (2, .int a2), (3, .int a3), (4, .int ((1 : Int32) <<< (v2 &&& 31))), (5, .int s3.1), (6, .int s6.1), (7, .int u8)]) [1, 2, 3, 4, 5, 6, 7, 0] rfl ?_
                  exact Jj12 _ h
                · refine G.iload dX12_cheapens_100 rfl ?_
                  refine G.iload_n dX12_cheapens_102 rfl rfl ?_
                  refine G.ishr dX12_cheapens_103 ?_
                  refine G.iconst (1 : Int32) dX12_cheapens_104 ki_1 ?_
                  refine G.iand dX12_cheapens_105 ?_
                  refine G.if_ne 206 dX12_cheapens_106 (by decide) h (fun c14 h => ?_) (fun c14 h => ?_)
                  · refine G.iconst (0 : Int32) dX12_cheapens_109 ki_0 ?_
                    refine G.istore (lv' := [(8, .int (0 : Int32)), (7, .int u8), (0, .ref a0), (1, .int a1), (2, .int a2), (3, .int a3), (4, .int ((1 : Int32) <<< (v2 &&& 31))), (5, .int s3.1), (6, .int s6.1)]) dX12_cheapens_110 (Nat.le_of_ble_eq_true rfl) rfl ?_
                    refine G.sub (lv' := [(0, .ref a0), (1, .int a1), (2, .int a2), (3, .int a3), (4, .int ((1 : Int32) <<< (v2 &&& 31))), (5, .int s3.1), (6, .int s6.1), (7, .int u8), (8, .int (0 : Int32))]) [2, 3, 4, 5, 6, 7, 8, 1, 0] rfl ?_
                    refine loopE (fun (s15 : Int32 × Int32) => G yX12_cheapens cX12_cheapens 10 none 5 112 [(0, .ref a0), (1, .int a1), (2, .int a2), (3, .int a3), (4, .int ((1 : Int32) <<< (v2 &&& 31))), (5, .int s3.1), (6, .int s6.1), (7, .int s15.1), (8, .int s15.2)] [] s6.2 none o) (fun (e15 : Int32) => G yX12_cheapens cX12_cheapens 10 none 5 206 [(0, .ref a0), (1, .int a1), (2, .int a2), (3, .int a3), (4, .int ((1 : Int32) <<< (v2 &&& 31))), (5, .int s3.1), (6, .int s6.1), (7, .int e15)] [] s6.2 none o) h ?_ ?_
                    · intro e15 h
                      show G yX12_cheapens cX12_cheapens 10 none 5 206 [(0, .ref a0), (1, .int a1), (2, .int a2), (3, .int a3), (4, .int ((1 : Int32) <<< (v2 &&& 31))), (5, .int s3.1), (6, .int s6.1), (7, .int e15)] [] s6.2 none o
                      refine G.sub (lv' := [(0, .ref a0), (1, .int a1), (2, .int a2), (3, .int a3), (4, .int ((1 : Int32) <<< (v2 &&& 31))), (5, .int s3.1), (6, .int s6.1), (7, .int e15)]) [0, 1, 2, 3, 4, 5, 6, 7] rfl ?_
                      exact Jj12 _ h
                    · intro s15 x15 h K15
                      show G yX12_cheapens cX12_cheapens 10 none 5 112 [(0, .ref a0), (1, .int a1), (2, .int a2), (3, .int a3), (4, .int ((1 : Int32) <<< (v2 &&& 31))), (5, .int s3.1), (6, .int s6.1), (7, .int s15.1), (8, .int s15.2)] [] s6.2 none o
                      refine G.iload dX12_cheapens_112 rfl ?_
                      refine G.aload_n dX12_cheapens_114 rfl rfl ?_
                      refine G.getI dX12_cheapens_115 fkX12_498 fr12_76 h (fun v16 h => ?_)
                      refine G.icmp_ge 206 dX12_cheapens_118 (by decide) h (fun c17 h => ?_) (fun c17 h => ?_)
                      · refine G.sub (lv' := [(0, .ref a0), (1, .int a1), (2, .int a2), (3, .int a3), (4, .int ((1 : Int32) <<< (v2 &&& 31))), (5, .int s3.1), (6, .int s6.1), (7, .int s15.1)]) [0, 1, 2, 3, 4, 5, 6, 7] rfl ?_
                        have h := leafR' h K15
                        exact h
                      · refine G.aload_n dX12_cheapens_121 rfl rfl ?_
                        refine G.iload dX12_cheapens_122 rfl ?_
                        refine G.iload dX12_cheapens_124 rfl ?_
                        refine G.callVi (ci := 12) [.int s15.2, .int s6.1] [] dX12_cheapens_126 lkX12_508 okX12_canTake rfl (fun v hv => C_X12_canTake hv) (Nat.le_of_ble_eq_true rfl) rfl rfl (Nat.le_of_ble_eq_true rfl) h (fun v18 h => ?_)
                        refine jn_elim (fun j20 => ∀ (u19 : Int32), j20 u19 = some x15 → G yX12_cheapens cX12_cheapens 10 none 5 200 [(0, .ref a0), (1, .int a1), (2, .int a2), (3, .int a3), (4, .int ((1 : Int32) <<< (v2 &&& 31))), (5, .int s3.1), (6, .int s6.1), (7, .int u19), (8, .int s15.2)] [] s6.2 none o) h ?_ ?_
                        · intro u19 h
                          refine G.iinc s15.2 (w := (s15.2 + (1 : Int32))) (lv' := [(8, .int (s15.2 + (1 : Int32))), (0, .ref a0), (1, .int a1), (2, .int a2), (3, .int a3), (4, .int ((1 : Int32) <<< (v2 &&& 31))), (5, .int s3.1), (6, .int s6.1), (7, .int u19)]) dX12_cheapens_200 rfl rfl (Nat.le_of_ble_eq_true rfl) rfl ?_
                          refine G.goto 112 dX12_cheapens_203 (by decide) ?_
                          refine G.sub (lv' := [(0, .ref a0), (1, .int a1), (2, .int a2), (3, .int a3), (4, .int ((1 : Int32) <<< (v2 &&& 31))), (5, .int s3.1), (6, .int s6.1), (7, .int u19), (8, .int (s15.2 + (1 : Int32)))]) [1, 2, 3, 4, 5, 6, 7, 8, 0] rfl ?_
                          have h := leafL' h K15
                          exact h
                        · intro j20 Jj20 h
                          refine G.if_ne 135 dX12_cheapens_129 (by decide) h (fun c21 h => ?_) (fun c21 h => ?_)
                          · refine G.goto 200 dX12_cheapens_132 (by decide) ?_
                            refine G.sub (lv' := [(0, .ref a0), (1, .int a1), (2, .int a2), (3, .int a3), (4, .int ((1 : Int32) <<< (v2 &&& 31))), (5, .int s3.1), (6, .int s6.1), (7, .int s15.1), (8, .int s15.2)]) [0, 1, 2, 3, 4, 5, 6, 7, 8] rfl ?_
                            exact Jj20 _ h
                          · refine G.aload_n dX12_cheapens_135 rfl rfl ?_
                            refine G.getR dX12_cheapens_136 fkX12_182 fr12_75 h (fun v22 h => ?_)
                            refine G.sipush (1024 : Int32) dX12_cheapens_139 ks_1024 ?_
                            refine G.iload dX12_cheapens_142 rfl ?_
                            refine G.imul dX12_cheapens_144 ?_
                            refine G.sipush (1024 : Int32) dX12_cheapens_145 ks_1024 ?_
                            refine G.iadd dX12_cheapens_148 ?_
                            refine G.iload dX12_cheapens_149 rfl ?_
                            refine G.aload_n dX12_cheapens_151 rfl rfl ?_
                            refine G.getR dX12_cheapens_152 fkX12_194 fr12_80 h (fun v23 h => ?_)
                            refine G.iload dX12_cheapens_155 rfl ?_
                            refine G.iald dX12_cheapens_157 h (fun v24 h => ?_)
                            refine G.ior dX12_cheapens_158 ?_
                            refine G.iadd dX12_cheapens_159 ?_
                            refine G.iald dX12_cheapens_160 h (fun v25 h => ?_)
                            refine G.istore (lv' := [(9, .int v25), (0, .ref a0), (1, .int a1), (2, .int a2), (3, .int a3), (4, .int ((1 : Int32) <<< (v2 &&& 31))), (5, .int s3.1), (6, .int s6.1), (7, .int s15.1), (8, .int s15.2)]) dX12_cheapens_161 (Nat.le_of_ble_eq_true rfl) rfl ?_
                            refine G.iload dX12_cheapens_163 rfl ?_
                            refine G.iconst (-1 : Int32) dX12_cheapens_165 ki_m1 ?_
                            refine G.icmp_eq 200 dX12_cheapens_166 (by decide) h (fun c26 h => ?_) (fun c26 h => ?_)
                            · refine G.sub (lv' := [(0, .ref a0), (1, .int a1), (2, .int a2), (3, .int a3), (4, .int ((1 : Int32) <<< (v2 &&& 31))), (5, .int s3.1), (6, .int s6.1), (7, .int s15.1), (8, .int s15.2)]) [1, 2, 3, 4, 5, 6, 7, 8, 9] rfl ?_
                              exact Jj20 _ h
                            · refine G.iload dX12_cheapens_169 rfl ?_
                              refine G.iconst (-1 : Int32) dX12_cheapens_171 ki_m1 ?_
                              refine jn_elim (fun j28 => j28 = some x15 → G yX12_cheapens cX12_cheapens 10 none 5 189 [(0, .ref a0), (1, .int a1), (2, .int a2), (3, .int a3), (4, .int ((1 : Int32) <<< (v2 &&& 31))), (5, .int s3.1), (6, .int s6.1), (8, .int s15.2), (9, .int v25)] [] s6.2 none o) h ?_ ?_
                              · intro h
                                refine G.iload dX12_cheapens_189 rfl ?_
                                refine G.aload_n dX12_cheapens_191 rfl rfl ?_
                                refine G.iload dX12_cheapens_192 rfl ?_
                                refine G.callVi (ci := 12) [.int s15.2] [.int v25] dX12_cheapens_194 lkX12_511 okX12_price rfl (fun v hv => C_X12_price hv) (Nat.le_of_ble_eq_true rfl) rfl rfl (Nat.le_of_ble_eq_true rfl) h (fun v27 h => ?_)
                                refine G.iadd dX12_cheapens_197 ?_
                                refine G.istore (lv' := [(7, .int (v25 + v27)), (0, .ref a0), (1, .int a1), (2, .int a2), (3, .int a3), (4, .int ((1 : Int32) <<< (v2 &&& 31))), (5, .int s3.1), (6, .int s6.1), (8, .int s15.2), (9, .int v25)]) dX12_cheapens_198 (Nat.le_of_ble_eq_true rfl) rfl ?_
                                refine G.sub (lv' := [(0, .ref a0), (1, .int a1), (2, .int a2), (3, .int a3), (4, .int ((1 : Int32) <<< (v2 &&& 31))), (5, .int s3.1), (6, .int s6.1), (7, .int (v25 + v27)), (8, .int s15.2)]) [1, 2, 3, 4, 5, 6, 7, 0, 8] rfl ?_
                                exact Jj20 _ h
                              · intro j28 Jj28 h
                                refine G.icmp_eq 189 dX12_cheapens_172 (by decide) h (fun c29 h => ?_) (fun c29 h => ?_)
                                · refine G.sub (lv' := [(0, .ref a0), (1, .int a1), (2, .int a2), (3, .int a3), (4, .int ((1 : Int32) <<< (v2 &&& 31))), (5, .int s3.1), (6, .int s6.1), (8, .int s15.2), (9, .int v25)]) [1, 2, 3, 4, 5, 6, 7, 9, 0] rfl ?_
                                  exact Jj28  h
                                · refine G.iload dX12_cheapens_175 rfl ?_
                                  refine G.aload_n dX12_cheapens_177 rfl rfl ?_
                                  refine G.iload dX12_cheapens_178 rfl ?_
                                  refine G.callVi (ci := 12) [.int s15.2] [.int v25] dX12_cheapens_180 lkX12_511 okX12_price rfl (fun v hv => C_X12_price hv) (Nat.le_of_ble_eq_true rfl) rfl rfl (Nat.le_of_ble_eq_true rfl) h (fun v30 h => ?_)
                                  refine G.iadd dX12_cheapens_183 ?_
                                  refine G.iload dX12_cheapens_184 rfl ?_
                                  refine G.icmp_ge 200 dX12_cheapens_186 (by decide) h (fun c31 h => ?_) (fun c31 h => ?_)
                                  · refine G.sub (lv' := [(0, .ref a0), (1, .int a1), (2, .int a2), (3, .int a3), (4, .int ((1 : Int32) <<< (v2 &&& 31))), (5, .int s3.1), (6, .int s6.1), (7, .int s15.1), (8, .int s15.2)]) [1, 2, 3, 4, 5, 6, 7, 8, 9] rfl ?_
                                    exact Jj20 _ h
                                  · refine G.sub (lv' := [(0, .ref a0), (1, .int a1), (2, .int a2), (3, .int a3), (4, .int ((1 : Int32) <<< (v2 &&& 31))), (5, .int s3.1), (6, .int s6.1), (8, .int s15.2), (9, .int v25)]) [1, 2, 3, 4, 5, 6, 7, 9, 0] rfl ?_
                                    exact Jj28  h
                  · refine G.sub (lv' := [(0, .ref a0), (1, .int a1), (2, .int a2), (3, .int a3), (4, .int ((1 : Int32) <<< (v2 &&& 31))), (5, .int s3.1), (6, .int s6.1), (7, .int u8)]) [1, 2, 3, 4, 5, 6, 7, 0] rfl ?_
                    exact Jj12 _ h
            · intro j32 Jj32 h
              refine G.icmp_ne 62 dX12_cheapens_55 (by decide) h (fun c33 h => ?_) (fun c33 h => ?_)
              · refine G.iconst (0 : Int32) dX12_cheapens_58 ki_0 ?_
                refine G.goto 91 dX12_cheapens_59 (by decide) ?_
                refine G.sub (lv' := [(0, .ref a0), (1, .int a1), (2, .int a2), (3, .int a3), (4, .int ((1 : Int32) <<< (v2 &&& 31))), (5, .int s3.1), (6, .int s6.1)]) [0, 1, 2, 3, 4, 5, 6] rfl ?_
                exact Jj32 _ h
              · refine G.iload dX12_cheapens_62 rfl ?_
                refine G.bipush (24 : Int32) dX12_cheapens_64 kb_24 ?_
                refine G.icmp_ne 73 dX12_cheapens_66 (by decide) h (fun c34 h => ?_) (fun c34 h => ?_)
                · refine G.iconst (-1 : Int32) dX12_cheapens_69 ki_m1 ?_
                  refine G.goto 91 dX12_cheapens_70 (by decide) ?_
                  refine G.sub (lv' := [(0, .ref a0), (1, .int a1), (2, .int a2), (3, .int a3), (4, .int ((1 : Int32) <<< (v2 &&& 31))), (5, .int s3.1), (6, .int s6.1)]) [0, 1, 2, 3, 4, 5, 6] rfl ?_
                  exact Jj32 _ h
                · refine G.aload_n dX12_cheapens_73 rfl rfl ?_
                  refine G.getR dX12_cheapens_74 fkX12_182 fr12_75 h (fun v35 h => ?_)
                  refine G.sipush (1024 : Int32) dX12_cheapens_77 ks_1024 ?_
                  refine G.iload dX12_cheapens_80 rfl ?_
                  refine G.imul dX12_cheapens_82 ?_
                  refine G.sipush (1024 : Int32) dX12_cheapens_83 ks_1024 ?_
                  refine G.iadd dX12_cheapens_86 ?_
                  refine G.iload dX12_cheapens_87 rfl ?_
                  refine G.iadd dX12_cheapens_89 ?_
                  refine G.iald dX12_cheapens_90 h (fun v36 h => ?_)
                  refine G.sub (lv' := [(0, .ref a0), (1, .int a1), (2, .int a2), (3, .int a3), (4, .int ((1 : Int32) <<< (v2 &&& 31))), (5, .int s3.1), (6, .int s6.1)]) [0, 1, 2, 3, 4, 5, 6] rfl ?_
                  exact Jj32 _ h
      · intro j37 Jj37 h
        refine G.icmp_ge 38 dX12_cheapens_28 (by decide) h (fun c38 h => ?_) (fun c38 h => ?_)
        · refine G.sub (lv' := [(0, .ref a0), (1, .int a1), (2, .int a2), (3, .int a3), (4, .int ((1 : Int32) <<< (v2 &&& 31))), (5, .int s3.1)]) [0, 1, 2, 3, 4, 5] rfl ?_
          exact Jj37 _ h
        · refine G.aload_n dX12_cheapens_31 rfl rfl ?_
          refine G.iload dX12_cheapens_32 rfl ?_
          refine G.iload_n dX12_cheapens_34 rfl rfl ?_
          refine G.callVv (ci := 12) [.int s3.1, .int a2] [] dX12_cheapens_35 lkX12_505 okX12_optionsAt rfl (fun v hv => C_X12_optionsAt hv) (Nat.le_of_ble_eq_true rfl) rfl rfl (Nat.le_of_ble_eq_true rfl) h (fun M40 h => ?_)
          refine G.sub (lv' := [(0, .ref a0), (1, .int a1), (2, .int a2), (3, .int a3), (4, .int ((1 : Int32) <<< (v2 &&& 31))), (5, .int s3.1)]) [0, 1, 2, 3, 4, 5] rfl ?_
          exact Jj37 _ h
-- OnlyUpwardModel.cheap(IIIII)I
set_option maxRecDepth 100000 in
set_option maxHeartbeats 4000000 in
def F_X12_cheap (n : Nat) (M : AM) (a0 : Nat) (a1 : Int32) (a2 : Int32) (a3 : Int32) (a4 : Int32) (a5 : Int32) : Option (Int32 × AM) :=
  (rcv 12 M a0 (F_X12_isCheap n M a0 a1 a2 a3 a4)).bind fun v1 => if v1 = 0 then some ((-1 : Int32), M) else (F_X12_in n M a5 (0 : Int32) (1 : Int32)).bind fun v3 => if v3 = 0 then some ((-1 : Int32), M) else (rcv 12 M a0 (F_X12_cheapens n M a0 a1 a2 a4)).bind fun M6 => (gR 12 75 M6 a0).bind fun v7 => (rdI M6 v7 (((1024 : Int32) * a4) + a3)).bind fun v8 => if v8 = (-1 : Int32) then some ((-2 : Int32), M6) else if a5 = 0 then gd (¬ (1000 : Int32) = 0) (some ((v8 / (1000 : Int32)), M6)) else gd (¬ (1000 : Int32) = 0) (some ((v8 - v8 / (1000 : Int32) * (1000 : Int32)), M6))
set_option maxRecDepth 100000 in
set_option maxHeartbeats 4000000 in
theorem C_X12_cheap {n : Nat} {M : AM} {a0 : Nat} {a1 : Int32} {a2 : Int32} {a3 : Int32} {a4 : Int32} {a5 : Int32} {o : (Int32 × AM)} (h : F_X12_cheap n M a0 a1 a2 a3 a4 a5 = some o) : Cn yX12_cheap cX12_cheap 7 (some .int) 6 [.ref a0, .int a1, .int a2, .int a3, .int a4, .int a5] M (some (.int o.1)) o.2 := by
  unfold F_X12_cheap at h
  refine Cn.of rfl (Nat.le_of_ble_eq_true rfl) ?_
  show G yX12_cheap cX12_cheap 7 (some .int) 6 0 [(0, .ref a0), (1, .int a1), (2, .int a2), (3, .int a3), (4, .int a4), (5, .int a5)] [] M (some (.int o.1)) o.2
  refine G.aload_n dX12_cheap_0 rfl rfl ?_
  refine G.iload_n dX12_cheap_1 rfl rfl ?_
  refine G.iload_n dX12_cheap_2 rfl rfl ?_
  refine G.iload_n dX12_cheap_3 rfl rfl ?_
  refine G.iload dX12_cheap_4 rfl ?_
  refine G.callVi (ci := 12) [.int a1, .int a2, .int a3, .int a4] [] dX12_cheap_6 lkX12_514 okX12_isCheap rfl (fun v hv => C_X12_isCheap hv) (Nat.le_of_ble_eq_true rfl) rfl rfl (Nat.le_of_ble_eq_true rfl) h (fun v1 h => ?_)
  refine G.if_eq 22 dX12_cheap_9 (by decide) h (fun c2 h => ?_) (fun c2 h => ?_)
  · refine G.iconst (-1 : Int32) dX12_cheap_22 ki_m1 ?_
    exact G.iretW dX12_cheap_23 rfl (rfl) h
  · refine G.iload dX12_cheap_12 rfl ?_
    refine G.iconst (0 : Int32) dX12_cheap_14 ki_0 ?_
    refine G.iconst (1 : Int32) dX12_cheap_15 ki_1 ?_
    refine G.callSi [.int a5, .int (0 : Int32), .int (1 : Int32)] [] dX12_cheap_16 lkX12_386 okX12_in (fun v hv => C_X12_in hv) (Nat.le_of_ble_eq_true rfl) rfl rfl (Nat.le_of_ble_eq_true rfl) h (fun v3 h => ?_)
    refine G.if_ne 24 dX12_cheap_19 (by decide) h (fun c4 h => ?_) (fun c4 h => ?_)
    · refine G.iconst (-1 : Int32) dX12_cheap_22 ki_m1 ?_
      exact G.iretW dX12_cheap_23 rfl (rfl) h
    · refine G.aload_n dX12_cheap_24 rfl rfl ?_
      refine G.iload_n dX12_cheap_25 rfl rfl ?_
      refine G.iload_n dX12_cheap_26 rfl rfl ?_
      refine G.iload dX12_cheap_27 rfl ?_
      refine G.callVv (ci := 12) [.int a1, .int a2, .int a4] [] dX12_cheap_29 lkX12_517 okX12_cheapens rfl (fun v hv => C_X12_cheapens hv) (Nat.le_of_ble_eq_true rfl) rfl rfl (Nat.le_of_ble_eq_true rfl) h (fun M6 h => ?_)
      refine G.aload_n dX12_cheap_32 rfl rfl ?_
      refine G.getR dX12_cheap_33 fkX12_182 fr12_75 h (fun v7 h => ?_)
      refine G.sipush (1024 : Int32) dX12_cheap_36 ks_1024 ?_
      refine G.iload dX12_cheap_39 rfl ?_
      refine G.imul dX12_cheap_41 ?_
      refine G.iload_n dX12_cheap_42 rfl rfl ?_
      refine G.iadd dX12_cheap_43 ?_
      refine G.iald dX12_cheap_44 h (fun v8 h => ?_)
      refine G.istore (lv' := [(6, .int v8), (0, .ref a0), (1, .int a1), (2, .int a2), (3, .int a3), (4, .int a4), (5, .int a5)]) dX12_cheap_45 (Nat.le_of_ble_eq_true rfl) rfl ?_
      refine G.iload dX12_cheap_47 rfl ?_
      refine G.iconst (-1 : Int32) dX12_cheap_49 ki_m1 ?_
      refine G.icmp_ne 58 dX12_cheap_50 (by decide) h (fun c9 h => ?_) (fun c9 h => ?_)
      · refine G.bipush (-2 : Int32) dX12_cheap_53 kb_m2 ?_
        refine G.goto 78 dX12_cheap_55 (by decide) ?_
        exact G.iretW dX12_cheap_78 rfl (rfl) h
      · refine G.iload dX12_cheap_58 rfl ?_
        refine G.if_ne 72 dX12_cheap_60 (by decide) h (fun c10 h => ?_) (fun c10 h => ?_)
        · refine G.iload dX12_cheap_63 rfl ?_
          refine G.sipush (1000 : Int32) dX12_cheap_65 ks_1000 ?_
          refine gd_elim h (fun c11 h => ?_)
          refine G.idiv dX12_cheap_68 c11 ?_
          refine G.goto 78 dX12_cheap_69 (by decide) ?_
          exact G.iretW dX12_cheap_78 rfl (rfl) h
        · refine G.iload dX12_cheap_72 rfl ?_
          refine G.sipush (1000 : Int32) dX12_cheap_74 ks_1000 ?_
          refine gd_elim h (fun c12 h => ?_)
          refine G.irem dX12_cheap_77 c12 ?_
          exact G.iretW dX12_cheap_78 rfl (rfl) h
-- OnlyUpwardModel.cheapAt(IIIII)I
set_option maxRecDepth 100000 in
set_option maxHeartbeats 4000000 in
def F_X12_cheapAt (n : Nat) (M : AM) (a0 : Nat) (a1 : Int32) (a2 : Int32) (a3 : Int32) (a4 : Int32) (a5 : Int32) : Option (Int32 × AM) :=
  (rcv 12 M a0 (F_X12_isCheap n M a0 a1 a2 a3 a4)).bind fun v1 => if v1 = 0 then some ((-1 : Int32), M) else if 0 ≤ a5 then (rcv 12 M a0 (F_X12_cheapens n M a0 a1 a2 a4)).bind fun M5 => (gR 12 75 M5 a0).bind fun v6 => (rdI M5 v6 (((1024 : Int32) * a4) + a3)).bind fun v7 => if v7 = (-1 : Int32) then some ((-1 : Int32), M5) else (iter (fun (s9 : Int32 × Int32 × Int32 × AM) => if (24 : Int32) ≤ s9.2.2.1 then some (.inr (.inl s9.2.2.2)) else if ((s9.1 >>> (a1 &&& 31)) &&& (1 : Int32)) = 0 then (rcv 12 s9.2.2.2 a0 (F_X12_optionsAt n s9.2.2.2 a0 s9.2.2.1 a2)).bind fun M13 => (iter (fun (s14 : Int32 × Int32) => (gI 12 76 M13 a0).bind fun v15 => if v15 ≤ s14.2 then some (.inr s14.1) else if s14.1 = (-1 : Int32) then (rcv 12 M13 a0 (F_X12_canTake n M13 a0 s14.2 s9.1)).bind fun v18 => jn (fun (u19 : Int32) => some (.inl (u19, (s14.2 + (1 : Int32))))) fun j20 => if v18 = 0 then j20 s14.1 else (gR 12 75 M13 a0).bind fun v22 => (gR 12 80 M13 a0).bind fun v23 => (rdI M13 v23 s14.2).bind fun v24 => (rdI M13 v22 ((((1024 : Int32) * s9.2.2.1) + (1024 : Int32)) + (s9.1 ||| v24))).bind fun v25 => if v25 = (-1 : Int32) then j20 s14.1 else (rcv 12 M13 a0 (F_X12_price n M13 a0 s14.2)).bind fun v27 => (gR 12 75 M13 a0).bind fun v28 => (rdI M13 v28 (((1024 : Int32) * s9.2.2.1) + s9.1)).bind fun v29 => if (v25 + v27) = v29 then j20 s14.2 else j20 s14.1 else some (.inr s14.1)) n ((-1 : Int32), (0 : Int32))).bind fun (e14 : Int32) => jn (fun (u31 : Int32) (u32 : Int32) => some (.inl (u31, u32, (s9.2.2.1 + (1 : Int32)), M13))) fun j33 => if e14 = (-1 : Int32) then j33 s9.1 s9.2.1 else if s9.2.1 = 0 then (gR 12 77 M13 a0).bind fun v36 => (rdI M13 v36 e14).bind fun v37 => (gR 12 78 M13 a0).bind fun v38 => (rdI M13 v38 e14).bind fun v39 => (gR 12 79 M13 a0).bind fun v40 => (rdI M13 v40 e14).bind fun v41 => some (.inr (.inr ((((((10000 : Int32) * s9.2.2.1) + ((1000 : Int32) * v37)) + ((20 : Int32) * v39)) + v41), M13))) else (gR 12 80 M13 a0).bind fun v42 => (rdI M13 v42 e14).bind fun v43 => j33 (s9.1 ||| v43) (s9.2.1 + (-1 : Int32)) else some (.inr (.inl s9.2.2.2))) n (a3, a5, a4, M5)).bind fun (z9 : (AM) ⊕ (Int32 × AM)) => Sum.elim (fun (e9 : AM) => some ((-1 : Int32), e9)) (fun (v : (Int32 × AM)) => some v) z9 else some ((-1 : Int32), M)
set_option maxRecDepth 100000 in
set_option maxHeartbeats 4000000 in
theorem C_X12_cheapAt {n : Nat} {M : AM} {a0 : Nat} {a1 : Int32} {a2 : Int32} {a3 : Int32} {a4 : Int32} {a5 : Int32} {o : (Int32 × AM)} (h : F_X12_cheapAt n M a0 a1 a2 a3 a4 a5 = some o) : Cn yX12_cheapAt cX12_cheapAt 12 (some .int) 6 [.ref a0, .int a1, .int a2, .int a3, .int a4, .int a5] M (some (.int o.1)) o.2 := by
  unfold F_X12_cheapAt at h
  refine Cn.of rfl (Nat.le_of_ble_eq_true rfl) ?_
  show G yX12_cheapAt cX12_cheapAt 12 (some .int) 6 0 [(0, .ref a0), (1, .int a1), (2, .int a2), (3, .int a3), (4, .int a4), (5, .int a5)] [] M (some (.int o.1)) o.2
  refine G.aload_n dX12_cheapAt_0 rfl rfl ?_
  refine G.iload_n dX12_cheapAt_1 rfl rfl ?_
  refine G.iload_n dX12_cheapAt_2 rfl rfl ?_
  refine G.iload_n dX12_cheapAt_3 rfl rfl ?_
  refine G.iload dX12_cheapAt_4 rfl ?_
  refine G.callVi (ci := 12) [.int a1, .int a2, .int a3, .int a4] [] dX12_cheapAt_6 lkX12_514 okX12_isCheap rfl (fun v hv => C_X12_isCheap hv) (Nat.le_of_ble_eq_true rfl) rfl rfl (Nat.le_of_ble_eq_true rfl) h (fun v1 h => ?_)
  refine G.if_eq 17 dX12_cheapAt_9 (by decide) h (fun c2 h => ?_) (fun c2 h => ?_)
  · refine G.iconst (-1 : Int32) dX12_cheapAt_17 ki_m1 ?_
    exact G.iretW dX12_cheapAt_18 rfl (rfl) h
  · refine G.iload dX12_cheapAt_12 rfl ?_
    refine G.if_ge 19 dX12_cheapAt_14 (by decide) h (fun c3 h => ?_) (fun c3 h => ?_)
    · refine G.aload_n dX12_cheapAt_19 rfl rfl ?_
      refine G.iload_n dX12_cheapAt_20 rfl rfl ?_
      refine G.iload_n dX12_cheapAt_21 rfl rfl ?_
      refine G.iload dX12_cheapAt_22 rfl ?_
      refine G.callVv (ci := 12) [.int a1, .int a2, .int a4] [] dX12_cheapAt_24 lkX12_517 okX12_cheapens rfl (fun v hv => C_X12_cheapens hv) (Nat.le_of_ble_eq_true rfl) rfl rfl (Nat.le_of_ble_eq_true rfl) h (fun M5 h => ?_)
      refine G.iload_n dX12_cheapAt_27 rfl rfl ?_
      refine G.istore (lv' := [(6, .int a3), (0, .ref a0), (1, .int a1), (2, .int a2), (3, .int a3), (4, .int a4), (5, .int a5)]) dX12_cheapAt_28 (Nat.le_of_ble_eq_true rfl) rfl ?_
      refine G.iload dX12_cheapAt_30 rfl ?_
      refine G.istore (lv' := [(7, .int a5), (6, .int a3), (0, .ref a0), (1, .int a1), (2, .int a2), (3, .int a3), (4, .int a4), (5, .int a5)]) dX12_cheapAt_32 (Nat.le_of_ble_eq_true rfl) rfl ?_
      refine G.aload_n dX12_cheapAt_34 rfl rfl ?_
      refine G.getR dX12_cheapAt_35 fkX12_182 fr12_75 h (fun v6 h => ?_)
      refine G.sipush (1024 : Int32) dX12_cheapAt_38 ks_1024 ?_
      refine G.iload dX12_cheapAt_41 rfl ?_
      refine G.imul dX12_cheapAt_43 ?_
      refine G.iload_n dX12_cheapAt_44 rfl rfl ?_
      refine G.iadd dX12_cheapAt_45 ?_
      refine G.iald dX12_cheapAt_46 h (fun v7 h => ?_)
      refine G.iconst (-1 : Int32) dX12_cheapAt_47 ki_m1 ?_
      refine G.icmp_ne 53 dX12_cheapAt_48 (by decide) h (fun c8 h => ?_) (fun c8 h => ?_)
      · refine G.iconst (-1 : Int32) dX12_cheapAt_51 ki_m1 ?_
        exact G.iretW dX12_cheapAt_52 rfl (rfl) h
      · refine G.iload dX12_cheapAt_53 rfl ?_
        refine G.istore (lv' := [(8, .int a4), (7, .int a5), (6, .int a3), (0, .ref a0), (1, .int a1), (2, .int a2), (3, .int a3), (4, .int a4), (5, .int a5)]) dX12_cheapAt_55 (Nat.le_of_ble_eq_true rfl) rfl ?_
        refine G.sub (lv' := [(0, .ref a0), (1, .int a1), (2, .int a2), (6, .int a3), (7, .int a5), (8, .int a4)]) [3, 4, 5, 2, 1, 0] rfl ?_
        refine loopE (fun (s9 : Int32 × Int32 × Int32 × AM) => G yX12_cheapAt cX12_cheapAt 12 (some .int) 6 57 [(0, .ref a0), (1, .int a1), (2, .int a2), (6, .int s9.1), (7, .int s9.2.1), (8, .int s9.2.2.1)] [] s9.2.2.2 (some (.int o.1)) o.2) (fun (z9 : (AM) ⊕ (Int32 × AM)) => Sum.elim (fun (e9 : AM) => G yX12_cheapAt cX12_cheapAt 12 (some .int) 6 258 [] [] e9 (some (.int o.1)) o.2) (fun (v : (Int32 × AM)) => some v = some o) z9) h ?_ ?_
        · intro z9 h
          rcases z9 with e9 | v
          · have h := sum_inl h
            show G yX12_cheapAt cX12_cheapAt 12 (some .int) 6 258 [] [] e9 (some (.int o.1)) o.2
            refine G.iconst (-1 : Int32) dX12_cheapAt_258 ki_m1 ?_
            exact G.iretW dX12_cheapAt_259 rfl (rfl) h
          · have h := sum_inr h
            exact h
        · intro s9 x9 h K9
          show G yX12_cheapAt cX12_cheapAt 12 (some .int) 6 57 [(0, .ref a0), (1, .int a1), (2, .int a2), (6, .int s9.1), (7, .int s9.2.1), (8, .int s9.2.2.1)] [] s9.2.2.2 (some (.int o.1)) o.2
          refine G.iload dX12_cheapAt_57 rfl ?_
          refine G.bipush (24 : Int32) dX12_cheapAt_59 kb_24 ?_
          refine G.icmp_ge 258 dX12_cheapAt_61 (by decide) h (fun c10 h => ?_) (fun c10 h => ?_)
          · refine G.sub (lv' := []) [] rfl ?_
            have h := leafR' h K9
            exact h
          · refine G.iload dX12_cheapAt_64 rfl ?_
            refine G.iload_n dX12_cheapAt_66 rfl rfl ?_
            refine G.ishr dX12_cheapAt_67 ?_
            refine G.iconst (1 : Int32) dX12_cheapAt_68 ki_1 ?_
            refine G.iand dX12_cheapAt_69 ?_
            refine G.if_ne 258 dX12_cheapAt_70 (by decide) h (fun c11 h => ?_) (fun c11 h => ?_)
            · refine G.aload_n dX12_cheapAt_73 rfl rfl ?_
              refine G.iload dX12_cheapAt_74 rfl ?_
              refine G.iload_n dX12_cheapAt_76 rfl rfl ?_
              refine G.callVv (ci := 12) [.int s9.2.2.1, .int a2] [] dX12_cheapAt_77 lkX12_505 okX12_optionsAt rfl (fun v hv => C_X12_optionsAt hv) (Nat.le_of_ble_eq_true rfl) rfl rfl (Nat.le_of_ble_eq_true rfl) h (fun M13 h => ?_)
              refine G.iconst (-1 : Int32) dX12_cheapAt_80 ki_m1 ?_
              refine G.istore (lv' := [(9, .int (-1 : Int32)), (0, .ref a0), (1, .int a1), (2, .int a2), (6, .int s9.1), (7, .int s9.2.1), (8, .int s9.2.2.1)]) dX12_cheapAt_81 (Nat.le_of_ble_eq_true rfl) rfl ?_
              refine G.iconst (0 : Int32) dX12_cheapAt_83 ki_0 ?_
              refine G.istore (lv' := [(10, .int (0 : Int32)), (9, .int (-1 : Int32)), (0, .ref a0), (1, .int a1), (2, .int a2), (6, .int s9.1), (7, .int s9.2.1), (8, .int s9.2.2.1)]) dX12_cheapAt_84 (Nat.le_of_ble_eq_true rfl) rfl ?_
              refine G.sub (lv' := [(0, .ref a0), (1, .int a1), (2, .int a2), (6, .int s9.1), (7, .int s9.2.1), (8, .int s9.2.2.1), (9, .int (-1 : Int32)), (10, .int (0 : Int32))]) [2, 3, 4, 5, 6, 7, 1, 0] rfl ?_
              refine loopE (fun (s14 : Int32 × Int32) => G yX12_cheapAt cX12_cheapAt 12 (some .int) 6 86 [(0, .ref a0), (1, .int a1), (2, .int a2), (6, .int s9.1), (7, .int s9.2.1), (8, .int s9.2.2.1), (9, .int s14.1), (10, .int s14.2)] [] M13 (some (.int o.1)) o.2) (fun (e14 : Int32) => G yX12_cheapAt cX12_cheapAt 12 (some .int) 6 185 [(0, .ref a0), (1, .int a1), (2, .int a2), (6, .int s9.1), (7, .int s9.2.1), (8, .int s9.2.2.1), (9, .int e14)] [] M13 (some (.int o.1)) o.2) h ?_ ?_
              · intro e14 h
                show G yX12_cheapAt cX12_cheapAt 12 (some .int) 6 185 [(0, .ref a0), (1, .int a1), (2, .int a2), (6, .int s9.1), (7, .int s9.2.1), (8, .int s9.2.2.1), (9, .int e14)] [] M13 (some (.int o.1)) o.2
                refine G.iload dX12_cheapAt_185 rfl ?_
                refine G.iconst (-1 : Int32) dX12_cheapAt_187 ki_m1 ?_
                refine jn_elim (fun j33 => ∀ (u31 : Int32) (u32 : Int32), j33 u31 u32 = some x9 → G yX12_cheapAt cX12_cheapAt 12 (some .int) 6 252 [(0, .ref a0), (1, .int a1), (2, .int a2), (6, .int u31), (7, .int u32), (8, .int s9.2.2.1)] [] M13 (some (.int o.1)) o.2) h ?_ ?_
                · intro u31 u32 h
                  refine G.iinc s9.2.2.1 (w := (s9.2.2.1 + (1 : Int32))) (lv' := [(8, .int (s9.2.2.1 + (1 : Int32))), (0, .ref a0), (1, .int a1), (2, .int a2), (6, .int u31), (7, .int u32)]) dX12_cheapAt_252 rfl rfl (Nat.le_of_ble_eq_true rfl) rfl ?_
                  refine G.goto 57 dX12_cheapAt_255 (by decide) ?_
                  refine G.sub (lv' := [(0, .ref a0), (1, .int a1), (2, .int a2), (6, .int u31), (7, .int u32), (8, .int (s9.2.2.1 + (1 : Int32)))]) [1, 2, 3, 4, 5, 0] rfl ?_
                  have h := leafL' h K9
                  exact h
                · intro j33 Jj33 h
                  refine G.icmp_ne 194 dX12_cheapAt_188 (by decide) h (fun c34 h => ?_) (fun c34 h => ?_)
                  · refine G.goto 252 dX12_cheapAt_191 (by decide) ?_
                    refine G.sub (lv' := [(0, .ref a0), (1, .int a1), (2, .int a2), (6, .int s9.1), (7, .int s9.2.1), (8, .int s9.2.2.1)]) [0, 1, 2, 3, 4, 5] rfl ?_
                    exact Jj33 _ _ h
                  · refine G.iload dX12_cheapAt_194 rfl ?_
                    refine G.if_ne 237 dX12_cheapAt_196 (by decide) h (fun c35 h => ?_) (fun c35 h => ?_)
                    · refine G.sipush (10000 : Int32) dX12_cheapAt_199 ks_10000 ?_
                      refine G.iload dX12_cheapAt_202 rfl ?_
                      refine G.imul dX12_cheapAt_204 ?_
                      refine G.sipush (1000 : Int32) dX12_cheapAt_205 ks_1000 ?_
                      refine G.aload_n dX12_cheapAt_208 rfl rfl ?_
                      refine G.getR dX12_cheapAt_209 fkX12_185 fr12_77 h (fun v36 h => ?_)
                      refine G.iload dX12_cheapAt_212 rfl ?_
                      refine G.iald dX12_cheapAt_214 h (fun v37 h => ?_)
                      refine G.imul dX12_cheapAt_215 ?_
                      refine G.iadd dX12_cheapAt_216 ?_
                      refine G.bipush (20 : Int32) dX12_cheapAt_217 kb_20 ?_
                      refine G.aload_n dX12_cheapAt_219 rfl rfl ?_
                      refine G.getR dX12_cheapAt_220 fkX12_188 fr12_78 h (fun v38 h => ?_)
                      refine G.iload dX12_cheapAt_223 rfl ?_
                      refine G.iald dX12_cheapAt_225 h (fun v39 h => ?_)
                      refine G.imul dX12_cheapAt_226 ?_
                      refine G.iadd dX12_cheapAt_227 ?_
                      refine G.aload_n dX12_cheapAt_228 rfl rfl ?_
                      refine G.getR dX12_cheapAt_229 fkX12_191 fr12_79 h (fun v40 h => ?_)
                      refine G.iload dX12_cheapAt_232 rfl ?_
                      refine G.iald dX12_cheapAt_234 h (fun v41 h => ?_)
                      refine G.iadd dX12_cheapAt_235 ?_
                      have h := leafR' h K9
                      exact G.iretW dX12_cheapAt_236 rfl (rfl) h
                    · refine G.iinc s9.2.1 (w := (s9.2.1 + (-1 : Int32))) (lv' := [(7, .int (s9.2.1 + (-1 : Int32))), (0, .ref a0), (1, .int a1), (2, .int a2), (6, .int s9.1), (8, .int s9.2.2.1), (9, .int e14)]) dX12_cheapAt_237 rfl rfl (Nat.le_of_ble_eq_true rfl) rfl ?_
                      refine G.iload dX12_cheapAt_240 rfl ?_
                      refine G.aload_n dX12_cheapAt_242 rfl rfl ?_
                      refine G.getR dX12_cheapAt_243 fkX12_194 fr12_80 h (fun v42 h => ?_)
                      refine G.iload dX12_cheapAt_246 rfl ?_
                      refine G.iald dX12_cheapAt_248 h (fun v43 h => ?_)
                      refine G.ior dX12_cheapAt_249 ?_
                      refine G.istore (lv' := [(6, .int (s9.1 ||| v43)), (7, .int (s9.2.1 + (-1 : Int32))), (0, .ref a0), (1, .int a1), (2, .int a2), (8, .int s9.2.2.1), (9, .int e14)]) dX12_cheapAt_250 (Nat.le_of_ble_eq_true rfl) rfl ?_
                      refine G.sub (lv' := [(0, .ref a0), (1, .int a1), (2, .int a2), (6, .int (s9.1 ||| v43)), (7, .int (s9.2.1 + (-1 : Int32))), (8, .int s9.2.2.1)]) [2, 3, 4, 0, 1, 5] rfl ?_
                      exact Jj33 _ _ h
              · intro s14 x14 h K14
                show G yX12_cheapAt cX12_cheapAt 12 (some .int) 6 86 [(0, .ref a0), (1, .int a1), (2, .int a2), (6, .int s9.1), (7, .int s9.2.1), (8, .int s9.2.2.1), (9, .int s14.1), (10, .int s14.2)] [] M13 (some (.int o.1)) o.2
                refine G.iload dX12_cheapAt_86 rfl ?_
                refine G.aload_n dX12_cheapAt_88 rfl rfl ?_
                refine G.getI dX12_cheapAt_89 fkX12_498 fr12_76 h (fun v15 h => ?_)
                refine G.icmp_ge 185 dX12_cheapAt_92 (by decide) h (fun c16 h => ?_) (fun c16 h => ?_)
                · refine G.sub (lv' := [(0, .ref a0), (1, .int a1), (2, .int a2), (6, .int s9.1), (7, .int s9.2.1), (8, .int s9.2.2.1), (9, .int s14.1)]) [0, 1, 2, 3, 4, 5, 6] rfl ?_
                  have h := leafR' h K14
                  exact h
                · refine G.iload dX12_cheapAt_95 rfl ?_
                  refine G.iconst (-1 : Int32) dX12_cheapAt_97 ki_m1 ?_
                  refine G.icmp_ne 185 dX12_cheapAt_98 (by decide) h (fun c17 h => ?_) (fun c17 h => ?_)
                  · refine G.aload_n dX12_cheapAt_101 rfl rfl ?_
                    refine G.iload dX12_cheapAt_102 rfl ?_
                    refine G.iload dX12_cheapAt_104 rfl ?_
                    refine G.callVi (ci := 12) [.int s14.2, .int s9.1] [] dX12_cheapAt_106 lkX12_508 okX12_canTake rfl (fun v hv => C_X12_canTake hv) (Nat.le_of_ble_eq_true rfl) rfl rfl (Nat.le_of_ble_eq_true rfl) h (fun v18 h => ?_)
                    refine jn_elim (fun j20 => ∀ (u19 : Int32), j20 u19 = some x14 → G yX12_cheapAt cX12_cheapAt 12 (some .int) 6 179 [(0, .ref a0), (1, .int a1), (2, .int a2), (6, .int s9.1), (7, .int s9.2.1), (8, .int s9.2.2.1), (9, .int u19), (10, .int s14.2)] [] M13 (some (.int o.1)) o.2) h ?_ ?_
                    · intro u19 h
                      refine G.iinc s14.2 (w := (s14.2 + (1 : Int32))) (lv' := [(10, .int (s14.2 + (1 : Int32))), (0, .ref a0), (1, .int a1), (2, .int a2), (6, .int s9.1), (7, .int s9.2.1), (8, .int s9.2.2.1), (9, .int u19)]) dX12_cheapAt_179 rfl rfl (Nat.le_of_ble_eq_true rfl) rfl ?_
                      refine G.goto 86 dX12_cheapAt_182 (by decide) ?_
                      refine G.sub (lv' := [(0, .ref a0), (1, .int a1), (2, .int a2), (6, .int s9.1), (7, .int s9.2.1), (8, .int s9.2.2.1), (9, .int u19), (10, .int (s14.2 + (1 : Int32)))]) [1, 2, 3, 4, 5, 6, 7, 0] rfl ?_
                      have h := leafL' h K14
                      exact h
                    · intro j20 Jj20 h
                      refine G.if_ne 115 dX12_cheapAt_109 (by decide) h (fun c21 h => ?_) (fun c21 h => ?_)
                      · refine G.goto 179 dX12_cheapAt_112 (by decide) ?_
                        refine G.sub (lv' := [(0, .ref a0), (1, .int a1), (2, .int a2), (6, .int s9.1), (7, .int s9.2.1), (8, .int s9.2.2.1), (9, .int s14.1), (10, .int s14.2)]) [0, 1, 2, 3, 4, 5, 6, 7] rfl ?_
                        exact Jj20 _ h
                      · refine G.aload_n dX12_cheapAt_115 rfl rfl ?_
                        refine G.getR dX12_cheapAt_116 fkX12_182 fr12_75 h (fun v22 h => ?_)
                        refine G.sipush (1024 : Int32) dX12_cheapAt_119 ks_1024 ?_
                        refine G.iload dX12_cheapAt_122 rfl ?_
                        refine G.imul dX12_cheapAt_124 ?_
                        refine G.sipush (1024 : Int32) dX12_cheapAt_125 ks_1024 ?_
                        refine G.iadd dX12_cheapAt_128 ?_
                        refine G.iload dX12_cheapAt_129 rfl ?_
                        refine G.aload_n dX12_cheapAt_131 rfl rfl ?_
                        refine G.getR dX12_cheapAt_132 fkX12_194 fr12_80 h (fun v23 h => ?_)
                        refine G.iload dX12_cheapAt_135 rfl ?_
                        refine G.iald dX12_cheapAt_137 h (fun v24 h => ?_)
                        refine G.ior dX12_cheapAt_138 ?_
                        refine G.iadd dX12_cheapAt_139 ?_
                        refine G.iald dX12_cheapAt_140 h (fun v25 h => ?_)
                        refine G.istore (lv' := [(11, .int v25), (0, .ref a0), (1, .int a1), (2, .int a2), (6, .int s9.1), (7, .int s9.2.1), (8, .int s9.2.2.1), (9, .int s14.1), (10, .int s14.2)]) dX12_cheapAt_141 (Nat.le_of_ble_eq_true rfl) rfl ?_
                        refine G.iload dX12_cheapAt_143 rfl ?_
                        refine G.iconst (-1 : Int32) dX12_cheapAt_145 ki_m1 ?_
                        refine G.icmp_eq 179 dX12_cheapAt_146 (by decide) h (fun c26 h => ?_) (fun c26 h => ?_)
                        · refine G.sub (lv' := [(0, .ref a0), (1, .int a1), (2, .int a2), (6, .int s9.1), (7, .int s9.2.1), (8, .int s9.2.2.1), (9, .int s14.1), (10, .int s14.2)]) [1, 2, 3, 4, 5, 6, 7, 8] rfl ?_
                          exact Jj20 _ h
                        · refine G.iload dX12_cheapAt_149 rfl ?_
                          refine G.aload_n dX12_cheapAt_151 rfl rfl ?_
                          refine G.iload dX12_cheapAt_152 rfl ?_
                          refine G.callVi (ci := 12) [.int s14.2] [.int v25] dX12_cheapAt_154 lkX12_511 okX12_price rfl (fun v hv => C_X12_price hv) (Nat.le_of_ble_eq_true rfl) rfl rfl (Nat.le_of_ble_eq_true rfl) h (fun v27 h => ?_)
                          refine G.iadd dX12_cheapAt_157 ?_
                          refine G.aload_n dX12_cheapAt_158 rfl rfl ?_
                          refine G.getR dX12_cheapAt_159 fkX12_182 fr12_75 h (fun v28 h => ?_)
                          refine G.sipush (1024 : Int32) dX12_cheapAt_162 ks_1024 ?_
                          refine G.iload dX12_cheapAt_165 rfl ?_
                          refine G.imul dX12_cheapAt_167 ?_
                          refine G.iload dX12_cheapAt_168 rfl ?_
                          refine G.iadd dX12_cheapAt_170 ?_
                          refine G.iald dX12_cheapAt_171 h (fun v29 h => ?_)
                          refine G.icmp_ne 179 dX12_cheapAt_172 (by decide) h (fun c30 h => ?_) (fun c30 h => ?_)
                          · refine G.iload dX12_cheapAt_175 rfl ?_
                            refine G.istore (lv' := [(9, .int s14.2), (11, .int v25), (0, .ref a0), (1, .int a1), (2, .int a2), (6, .int s9.1), (7, .int s9.2.1), (8, .int s9.2.2.1), (10, .int s14.2)]) dX12_cheapAt_177 (Nat.le_of_ble_eq_true rfl) rfl ?_
                            refine G.sub (lv' := [(0, .ref a0), (1, .int a1), (2, .int a2), (6, .int s9.1), (7, .int s9.2.1), (8, .int s9.2.2.1), (9, .int s14.2), (10, .int s14.2)]) [2, 3, 4, 5, 6, 7, 0, 8] rfl ?_
                            exact Jj20 _ h
                          · refine G.sub (lv' := [(0, .ref a0), (1, .int a1), (2, .int a2), (6, .int s9.1), (7, .int s9.2.1), (8, .int s9.2.2.1), (9, .int s14.1), (10, .int s14.2)]) [1, 2, 3, 4, 5, 6, 7, 8] rfl ?_
                            exact Jj20 _ h
                  · refine G.sub (lv' := [(0, .ref a0), (1, .int a1), (2, .int a2), (6, .int s9.1), (7, .int s9.2.1), (8, .int s9.2.2.1), (9, .int s14.1)]) [0, 1, 2, 3, 4, 5, 6] rfl ?_
                    have h := leafR' h K14
                    exact h
            · refine G.sub (lv' := []) [] rfl ?_
              have h := leafR' h K9
              exact h
    · refine G.iconst (-1 : Int32) dX12_cheapAt_17 ki_m1 ?_
      exact G.iretW dX12_cheapAt_18 rfl (rfl) h
-- OnlyUpwardModel.youngerIn(II)I
set_option maxRecDepth 100000 in
set_option maxHeartbeats 4000000 in
def F_X12_youngerIn (n : Nat) (M : AM) (a0 : Nat) (a1 : Int32) (a2 : Int32) : Option Int32 :=
  (rcv 12 M a0 (F_X12_placeOf n M a0 a1 a2)).bind fun v1 => if 0 ≤ v1 then (rcv 12 M a0 (F_X12_placeOf n M a0 a1 a2)).bind fun v3 => (rcv 12 M a0 (F_X12_earshotOf n M a0 v3 a2)).bind fun v4 => (iter (fun (s5 : Int32 × Int32) => (rcv 12 M a0 (F_X12_has n M a0 (1 : Int32))).bind fun v6 => if v6 ≤ s5.2 then some (.inr s5.1) else jn (fun (u8 : Int32) => some (.inl (u8, (s5.2 + (1 : Int32))))) fun j9 => if ((v4 >>> (s5.2 &&& 31)) &&& (1 : Int32)) = (1 : Int32) then (rcv 12 M a0 (F_X12_ageAt n M a0 s5.2 a2)).bind fun v11 => (rcv 12 M a0 (F_X12_ageAt n M a0 a1 a2)).bind fun v12 => if v12 ≤ v11 then j9 s5.1 else j9 (s5.1 ||| ((1 : Int32) <<< (s5.2 &&& 31))) else j9 s5.1) n ((0 : Int32), (0 : Int32))).bind fun (e5 : Int32) => some e5 else some (0 : Int32)
set_option maxRecDepth 100000 in
set_option maxHeartbeats 4000000 in
theorem C_X12_youngerIn {n : Nat} {M : AM} {a0 : Nat} {a1 : Int32} {a2 : Int32} {o : Int32} (h : F_X12_youngerIn n M a0 a1 a2 = some o) : Cn yX12_youngerIn cX12_youngerIn 6 (some .int) 3 [.ref a0, .int a1, .int a2] M (some (.int o)) M := by
  unfold F_X12_youngerIn at h
  refine Cn.of rfl (Nat.le_of_ble_eq_true rfl) ?_
  show G yX12_youngerIn cX12_youngerIn 6 (some .int) 3 0 [(0, .ref a0), (1, .int a1), (2, .int a2)] [] M (some (.int o)) M
  refine G.iconst (0 : Int32) dX12_youngerIn_0 ki_0 ?_
  refine G.istore_n (lv' := [(3, .int (0 : Int32)), (0, .ref a0), (1, .int a1), (2, .int a2)]) dX12_youngerIn_1 rfl (Nat.le_of_ble_eq_true rfl) rfl ?_
  refine G.aload_n dX12_youngerIn_2 rfl rfl ?_
  refine G.iload_n dX12_youngerIn_3 rfl rfl ?_
  refine G.iload_n dX12_youngerIn_4 rfl rfl ?_
  refine G.callVi (ci := 12) [.int a1, .int a2] [] dX12_youngerIn_5 lkX12_396 okX12_placeOf rfl (fun v hv => C_X12_placeOf hv) (Nat.le_of_ble_eq_true rfl) rfl rfl (Nat.le_of_ble_eq_true rfl) h (fun v1 h => ?_)
  refine G.if_ge 13 dX12_youngerIn_8 (by decide) h (fun c2 h => ?_) (fun c2 h => ?_)
  · refine G.aload_n dX12_youngerIn_13 rfl rfl ?_
    refine G.aload_n dX12_youngerIn_14 rfl rfl ?_
    refine G.iload_n dX12_youngerIn_15 rfl rfl ?_
    refine G.iload_n dX12_youngerIn_16 rfl rfl ?_
    refine G.callVi (ci := 12) [.int a1, .int a2] [.ref a0] dX12_youngerIn_17 lkX12_396 okX12_placeOf rfl (fun v hv => C_X12_placeOf hv) (Nat.le_of_ble_eq_true rfl) rfl rfl (Nat.le_of_ble_eq_true rfl) h (fun v3 h => ?_)
    refine G.iload_n dX12_youngerIn_20 rfl rfl ?_
    refine G.callVi (ci := 12) [.int v3, .int a2] [] dX12_youngerIn_21 lkX12_424 okX12_earshotOf rfl (fun v hv => C_X12_earshotOf hv) (Nat.le_of_ble_eq_true rfl) rfl rfl (Nat.le_of_ble_eq_true rfl) h (fun v4 h => ?_)
    refine G.istore (lv' := [(4, .int v4), (3, .int (0 : Int32)), (0, .ref a0), (1, .int a1), (2, .int a2)]) dX12_youngerIn_24 (Nat.le_of_ble_eq_true rfl) rfl ?_
    refine G.iconst (0 : Int32) dX12_youngerIn_26 ki_0 ?_
    refine G.istore (lv' := [(5, .int (0 : Int32)), (4, .int v4), (3, .int (0 : Int32)), (0, .ref a0), (1, .int a1), (2, .int a2)]) dX12_youngerIn_27 (Nat.le_of_ble_eq_true rfl) rfl ?_
    refine G.sub (lv' := [(0, .ref a0), (1, .int a1), (2, .int a2), (3, .int (0 : Int32)), (4, .int v4), (5, .int (0 : Int32))]) [3, 4, 5, 2, 1, 0] rfl ?_
    refine loopE (fun (s5 : Int32 × Int32) => G yX12_youngerIn cX12_youngerIn 6 (some .int) 3 29 [(0, .ref a0), (1, .int a1), (2, .int a2), (3, .int s5.1), (4, .int v4), (5, .int s5.2)] [] M (some (.int o)) M) (fun (e5 : Int32) => G yX12_youngerIn cX12_youngerIn 6 (some .int) 3 79 [(3, .int e5)] [] M (some (.int o)) M) h ?_ ?_
    · intro e5 h
      show G yX12_youngerIn cX12_youngerIn 6 (some .int) 3 79 [(3, .int e5)] [] M (some (.int o)) M
      refine G.iload_n dX12_youngerIn_79 rfl rfl ?_
      exact G.iret dX12_youngerIn_80 rfl (rfl) h
    · intro s5 x5 h K5
      show G yX12_youngerIn cX12_youngerIn 6 (some .int) 3 29 [(0, .ref a0), (1, .int a1), (2, .int a2), (3, .int s5.1), (4, .int v4), (5, .int s5.2)] [] M (some (.int o)) M
      refine G.iload dX12_youngerIn_29 rfl ?_
      refine G.aload_n dX12_youngerIn_31 rfl rfl ?_
      refine G.iconst (1 : Int32) dX12_youngerIn_32 ki_1 ?_
      refine G.callVi (ci := 12) [.int (1 : Int32)] [.int s5.2] dX12_youngerIn_33 lkX12_383 okX12_has rfl (fun v hv => C_X12_has hv) (Nat.le_of_ble_eq_true rfl) rfl rfl (Nat.le_of_ble_eq_true rfl) h (fun v6 h => ?_)
      refine G.icmp_ge 79 dX12_youngerIn_36 (by decide) h (fun c7 h => ?_) (fun c7 h => ?_)
      · refine G.sub (lv' := [(3, .int s5.1)]) [3] rfl ?_
        have h := leafR' h K5
        exact h
      · refine G.iload dX12_youngerIn_39 rfl ?_
        refine G.iload dX12_youngerIn_41 rfl ?_
        refine G.ishr dX12_youngerIn_43 ?_
        refine G.iconst (1 : Int32) dX12_youngerIn_44 ki_1 ?_
        refine G.iand dX12_youngerIn_45 ?_
        refine G.iconst (1 : Int32) dX12_youngerIn_46 ki_1 ?_
        refine jn_elim (fun j9 => ∀ (u8 : Int32), j9 u8 = some x5 → G yX12_youngerIn cX12_youngerIn 6 (some .int) 3 73 [(0, .ref a0), (1, .int a1), (2, .int a2), (3, .int u8), (4, .int v4), (5, .int s5.2)] [] M (some (.int o)) M) h ?_ ?_
        · intro u8 h
          refine G.iinc s5.2 (w := (s5.2 + (1 : Int32))) (lv' := [(5, .int (s5.2 + (1 : Int32))), (0, .ref a0), (1, .int a1), (2, .int a2), (3, .int u8), (4, .int v4)]) dX12_youngerIn_73 rfl rfl (Nat.le_of_ble_eq_true rfl) rfl ?_
          refine G.goto 29 dX12_youngerIn_76 (by decide) ?_
          refine G.sub (lv' := [(0, .ref a0), (1, .int a1), (2, .int a2), (3, .int u8), (4, .int v4), (5, .int (s5.2 + (1 : Int32)))]) [1, 2, 3, 4, 5, 0] rfl ?_
          have h := leafL' h K5
          exact h
        · intro j9 Jj9 h
          refine G.icmp_ne 73 dX12_youngerIn_47 (by decide) h (fun c10 h => ?_) (fun c10 h => ?_)
          · refine G.aload_n dX12_youngerIn_50 rfl rfl ?_
            refine G.iload dX12_youngerIn_51 rfl ?_
            refine G.iload_n dX12_youngerIn_53 rfl rfl ?_
            refine G.callVi (ci := 12) [.int s5.2, .int a2] [] dX12_youngerIn_54 lkX12_403 okX12_ageAt rfl (fun v hv => C_X12_ageAt hv) (Nat.le_of_ble_eq_true rfl) rfl rfl (Nat.le_of_ble_eq_true rfl) h (fun v11 h => ?_)
            refine G.aload_n dX12_youngerIn_57 rfl rfl ?_
            refine G.iload_n dX12_youngerIn_58 rfl rfl ?_
            refine G.iload_n dX12_youngerIn_59 rfl rfl ?_
            refine G.callVi (ci := 12) [.int a1, .int a2] [.int v11] dX12_youngerIn_60 lkX12_403 okX12_ageAt rfl (fun v hv => C_X12_ageAt hv) (Nat.le_of_ble_eq_true rfl) rfl rfl (Nat.le_of_ble_eq_true rfl) h (fun v12 h => ?_)
            refine G.icmp_ge 73 dX12_youngerIn_63 (by decide) h (fun c13 h => ?_) (fun c13 h => ?_)
            · refine G.sub (lv' := [(0, .ref a0), (1, .int a1), (2, .int a2), (3, .int s5.1), (4, .int v4), (5, .int s5.2)]) [0, 1, 2, 3, 4, 5] rfl ?_
              exact Jj9 _ h
            · refine G.iload_n dX12_youngerIn_66 rfl rfl ?_
              refine G.iconst (1 : Int32) dX12_youngerIn_67 ki_1 ?_
              refine G.iload dX12_youngerIn_68 rfl ?_
              refine G.ishl dX12_youngerIn_70 ?_
              refine G.ior dX12_youngerIn_71 ?_
              refine G.istore_n (lv' := [(3, .int (s5.1 ||| ((1 : Int32) <<< (s5.2 &&& 31)))), (0, .ref a0), (1, .int a1), (2, .int a2), (4, .int v4), (5, .int s5.2)]) dX12_youngerIn_72 rfl (Nat.le_of_ble_eq_true rfl) rfl ?_
              refine G.sub (lv' := [(0, .ref a0), (1, .int a1), (2, .int a2), (3, .int (s5.1 ||| ((1 : Int32) <<< (s5.2 &&& 31)))), (4, .int v4), (5, .int s5.2)]) [1, 2, 3, 0, 4, 5] rfl ?_
              exact Jj9 _ h
          · refine G.sub (lv' := [(0, .ref a0), (1, .int a1), (2, .int a2), (3, .int s5.1), (4, .int v4), (5, .int s5.2)]) [0, 1, 2, 3, 4, 5] rfl ?_
            exact Jj9 _ h
  · refine G.iconst (0 : Int32) dX12_youngerIn_11 ki_0 ?_
    exact G.iret dX12_youngerIn_12 rfl (rfl) h
-- OnlyUpwardModel.secret(II)I
set_option maxRecDepth 100000 in
set_option maxHeartbeats 4000000 in
def F_X12_secret (n : Nat) (M : AM) (a0 : Nat) (a1 : Int32) (a2 : Int32) : Option (Int32 × AM) :=
  (rcv 12 M a0 (F_X12_isPerson n M a0 a1)).bind fun v1 => if v1 = 0 then some ((-1 : Int32), M) else (F_X12_isHour n M a2).bind fun v3 => if v3 = 0 then some ((-1 : Int32), M) else (pI 12 61 M a0 (0 : Int32)).bind fun M5 => (rcv 12 M5 a0 (F_X12_youngerIn n M5 a0 a1 a2)).bind fun v6 => if v6 = 0 then (iter (fun (s8 : Int32 × AM) => (rcv 12 s8.2 a0 (F_X12_has n s8.2 a0 (1 : Int32))).bind fun v9 => if v9 ≤ s8.1 then some (.inr (.inl s8.2)) else (rcv 12 s8.2 a0 (F_X12_mayBy n s8.2 a0 a1 s8.1 a2 (0 : Int32) (0 : Int32))).bind fun v11 => if v11.1 = 0 then some (.inl ((s8.1 + (1 : Int32)), v11.2)) else some (.inr (.inr (s8.1, v11.2)))) n ((0 : Int32), M5)).bind fun (z8 : (AM) ⊕ (Int32 × AM)) => Sum.elim (fun (e8 : AM) => some ((-2 : Int32), e8)) (fun (v : (Int32 × AM)) => some v) z8 else some ((-2 : Int32), M5)
set_option maxRecDepth 100000 in
set_option maxHeartbeats 4000000 in
theorem C_X12_secret {n : Nat} {M : AM} {a0 : Nat} {a1 : Int32} {a2 : Int32} {o : (Int32 × AM)} (h : F_X12_secret n M a0 a1 a2 = some o) : Cn yX12_secret cX12_secret 4 (some .int) 4 [.ref a0, .int a1, .int a2] M (some (.int o.1)) o.2 := by
  unfold F_X12_secret at h
  refine Cn.of rfl (Nat.le_of_ble_eq_true rfl) ?_
  show G yX12_secret cX12_secret 4 (some .int) 4 0 [(0, .ref a0), (1, .int a1), (2, .int a2)] [] M (some (.int o.1)) o.2
  refine G.aload_n dX12_secret_0 rfl rfl ?_
  refine G.iload_n dX12_secret_1 rfl rfl ?_
  refine G.callVi (ci := 12) [.int a1] [] dX12_secret_2 lkX12_415 okX12_isPerson rfl (fun v hv => C_X12_isPerson hv) (Nat.le_of_ble_eq_true rfl) rfl rfl (Nat.le_of_ble_eq_true rfl) h (fun v1 h => ?_)
  refine G.if_eq 15 dX12_secret_5 (by decide) h (fun c2 h => ?_) (fun c2 h => ?_)
  · refine G.iconst (-1 : Int32) dX12_secret_15 ki_m1 ?_
    exact G.iretW dX12_secret_16 rfl (rfl) h
  · refine G.iload_n dX12_secret_8 rfl rfl ?_
    refine G.callSi [.int a2] [] dX12_secret_9 lkX12_418 okX12_isHour (fun v hv => C_X12_isHour hv) (Nat.le_of_ble_eq_true rfl) rfl rfl (Nat.le_of_ble_eq_true rfl) h (fun v3 h => ?_)
    refine G.if_ne 17 dX12_secret_12 (by decide) h (fun c4 h => ?_) (fun c4 h => ?_)
    · refine G.iconst (-1 : Int32) dX12_secret_15 ki_m1 ?_
      exact G.iretW dX12_secret_16 rfl (rfl) h
    · refine G.aload_n dX12_secret_17 rfl rfl ?_
      refine G.iconst (0 : Int32) dX12_secret_18 ki_0 ?_
      refine G.putI dX12_secret_19 fkX12_390 nf12_61 ft12_61 h (fun M5 h => ?_)
      refine G.aload_n dX12_secret_22 rfl rfl ?_
      refine G.iload_n dX12_secret_23 rfl rfl ?_
      refine G.iload_n dX12_secret_24 rfl rfl ?_
      refine G.callVi (ci := 12) [.int a1, .int a2] [] dX12_secret_25 lkX12_520 okX12_youngerIn rfl (fun v hv => C_X12_youngerIn hv) (Nat.le_of_ble_eq_true rfl) rfl rfl (Nat.le_of_ble_eq_true rfl) h (fun v6 h => ?_)
      refine G.if_eq 34 dX12_secret_28 (by decide) h (fun c7 h => ?_) (fun c7 h => ?_)
      · refine G.iconst (0 : Int32) dX12_secret_34 ki_0 ?_
        refine G.istore_n (lv' := [(3, .int (0 : Int32)), (0, .ref a0), (1, .int a1), (2, .int a2)]) dX12_secret_35 rfl (Nat.le_of_ble_eq_true rfl) rfl ?_
        refine G.sub (lv' := [(0, .ref a0), (1, .int a1), (2, .int a2), (3, .int (0 : Int32))]) [1, 2, 3, 0] rfl ?_
        refine loopE (fun (s8 : Int32 × AM) => G yX12_secret cX12_secret 4 (some .int) 4 36 [(0, .ref a0), (1, .int a1), (2, .int a2), (3, .int s8.1)] [] s8.2 (some (.int o.1)) o.2) (fun (z8 : (AM) ⊕ (Int32 × AM)) => Sum.elim (fun (e8 : AM) => G yX12_secret cX12_secret 4 (some .int) 4 65 [] [] e8 (some (.int o.1)) o.2) (fun (v : (Int32 × AM)) => some v = some o) z8) h ?_ ?_
        · intro z8 h
          rcases z8 with e8 | v
          · have h := sum_inl h
            show G yX12_secret cX12_secret 4 (some .int) 4 65 [] [] e8 (some (.int o.1)) o.2
            refine G.bipush (-2 : Int32) dX12_secret_65 kb_m2 ?_
            exact G.iretW dX12_secret_67 rfl (rfl) h
          · have h := sum_inr h
            exact h
        · intro s8 x8 h K8
          show G yX12_secret cX12_secret 4 (some .int) 4 36 [(0, .ref a0), (1, .int a1), (2, .int a2), (3, .int s8.1)] [] s8.2 (some (.int o.1)) o.2
          refine G.iload_n dX12_secret_36 rfl rfl ?_
          refine G.aload_n dX12_secret_37 rfl rfl ?_
          refine G.iconst (1 : Int32) dX12_secret_38 ki_1 ?_
          refine G.callVi (ci := 12) [.int (1 : Int32)] [.int s8.1] dX12_secret_39 lkX12_383 okX12_has rfl (fun v hv => C_X12_has hv) (Nat.le_of_ble_eq_true rfl) rfl rfl (Nat.le_of_ble_eq_true rfl) h (fun v9 h => ?_)
          refine G.icmp_ge 65 dX12_secret_42 (by decide) h (fun c10 h => ?_) (fun c10 h => ?_)
          · refine G.sub (lv' := []) [] rfl ?_
            have h := leafR' h K8
            exact h
          · refine G.aload_n dX12_secret_45 rfl rfl ?_
            refine G.iload_n dX12_secret_46 rfl rfl ?_
            refine G.iload_n dX12_secret_47 rfl rfl ?_
            refine G.iload_n dX12_secret_48 rfl rfl ?_
            refine G.iconst (0 : Int32) dX12_secret_49 ki_0 ?_
            refine G.iconst (0 : Int32) dX12_secret_50 ki_0 ?_
            refine G.callVi (ci := 12) [.int a1, .int s8.1, .int a2, .int (0 : Int32), .int (0 : Int32)] [] dX12_secret_51 lkX12_427 okX12_mayBy rfl (fun v hv => C_X12_mayBy hv) (Nat.le_of_ble_eq_true rfl) rfl rfl (Nat.le_of_ble_eq_true rfl) h (fun v11 h => ?_)
            refine G.if_eq 59 dX12_secret_54 (by decide) h (fun c12 h => ?_) (fun c12 h => ?_)
            · refine G.iinc s8.1 (w := (s8.1 + (1 : Int32))) (lv' := [(3, .int (s8.1 + (1 : Int32))), (0, .ref a0), (1, .int a1), (2, .int a2)]) dX12_secret_59 rfl rfl (Nat.le_of_ble_eq_true rfl) rfl ?_
              refine G.goto 36 dX12_secret_62 (by decide) ?_
              refine G.sub (lv' := [(0, .ref a0), (1, .int a1), (2, .int a2), (3, .int (s8.1 + (1 : Int32)))]) [1, 2, 3, 0] rfl ?_
              have h := leafL' h K8
              exact h
            · refine G.iload_n dX12_secret_57 rfl rfl ?_
              have h := leafR' h K8
              exact G.iretW dX12_secret_58 rfl (rfl) h
      · refine G.bipush (-2 : Int32) dX12_secret_31 kb_m2 ?_
        exact G.iretW dX12_secret_33 rfl (rfl) h
-- OnlyUpwardModel.below(II)I
set_option maxRecDepth 100000 in
set_option maxHeartbeats 4000000 in
def F_X12_below (n : Nat) (M : AM) (a0 : Nat) (a1 : Int32) (a2 : Int32) : Option (Int32 × AM) :=
  (rcv 12 M a0 (F_X12_isPerson n M a0 a1)).bind fun v1 => if v1 = 0 then some ((-1 : Int32), M) else (F_X12_isHour n M a2).bind fun v3 => if v3 = 0 then some ((-1 : Int32), M) else (pI 12 61 M a0 (0 : Int32)).bind fun M5 => (rcv 12 M5 a0 (F_X12_youngerIn n M5 a0 a1 a2)).bind fun v6 => some (v6, M5)
set_option maxRecDepth 100000 in
set_option maxHeartbeats 4000000 in
theorem C_X12_below {n : Nat} {M : AM} {a0 : Nat} {a1 : Int32} {a2 : Int32} {o : (Int32 × AM)} (h : F_X12_below n M a0 a1 a2 = some o) : Cn yX12_below cX12_below 3 (some .int) 4 [.ref a0, .int a1, .int a2] M (some (.int o.1)) o.2 := by
  unfold F_X12_below at h
  refine Cn.of rfl (Nat.le_of_ble_eq_true rfl) ?_
  show G yX12_below cX12_below 3 (some .int) 4 0 [(0, .ref a0), (1, .int a1), (2, .int a2)] [] M (some (.int o.1)) o.2
  refine G.aload_n dX12_below_0 rfl rfl ?_
  refine G.iload_n dX12_below_1 rfl rfl ?_
  refine G.callVi (ci := 12) [.int a1] [] dX12_below_2 lkX12_415 okX12_isPerson rfl (fun v hv => C_X12_isPerson hv) (Nat.le_of_ble_eq_true rfl) rfl rfl (Nat.le_of_ble_eq_true rfl) h (fun v1 h => ?_)
  refine G.if_eq 15 dX12_below_5 (by decide) h (fun c2 h => ?_) (fun c2 h => ?_)
  · refine G.iconst (-1 : Int32) dX12_below_15 ki_m1 ?_
    exact G.iretW dX12_below_16 rfl (rfl) h
  · refine G.iload_n dX12_below_8 rfl rfl ?_
    refine G.callSi [.int a2] [] dX12_below_9 lkX12_418 okX12_isHour (fun v hv => C_X12_isHour hv) (Nat.le_of_ble_eq_true rfl) rfl rfl (Nat.le_of_ble_eq_true rfl) h (fun v3 h => ?_)
    refine G.if_ne 17 dX12_below_12 (by decide) h (fun c4 h => ?_) (fun c4 h => ?_)
    · refine G.iconst (-1 : Int32) dX12_below_15 ki_m1 ?_
      exact G.iretW dX12_below_16 rfl (rfl) h
    · refine G.aload_n dX12_below_17 rfl rfl ?_
      refine G.iconst (0 : Int32) dX12_below_18 ki_0 ?_
      refine G.putI dX12_below_19 fkX12_390 nf12_61 ft12_61 h (fun M5 h => ?_)
      refine G.aload_n dX12_below_22 rfl rfl ?_
      refine G.iload_n dX12_below_23 rfl rfl ?_
      refine G.iload_n dX12_below_24 rfl rfl ?_
      refine G.callVi (ci := 12) [.int a1, .int a2] [] dX12_below_25 lkX12_520 okX12_youngerIn rfl (fun v hv => C_X12_youngerIn hv) (Nat.le_of_ble_eq_true rfl) rfl rfl (Nat.le_of_ble_eq_true rfl) h (fun v6 h => ?_)
      exact G.iretW dX12_below_28 rfl (rfl) h
-- OnlyUpwardModel.isSet(I)Z
set_option maxRecDepth 100000 in
set_option maxHeartbeats 4000000 in
def F_X12_isSet (n : Nat) (M : AM) (a0 : Nat) (a1 : Int32) : Option Int32 :=
  (rcv 12 M a0 (F_X12_has n M a0 (1 : Int32))).bind fun v1 => (F_X12_in n M a1 (0 : Int32) (((1 : Int32) <<< (v1 &&& 31)) - (1 : Int32))).bind fun v2 => gd (narrow .boolean (.int v2) = .int v2) (some v2)
set_option maxRecDepth 100000 in
set_option maxHeartbeats 4000000 in
theorem C_X12_isSet {n : Nat} {M : AM} {a0 : Nat} {a1 : Int32} {o : Int32} (h : F_X12_isSet n M a0 a1 = some o) : Cn yX12_isSet cX12_isSet 2 (some .boolean) 1 [.ref a0, .int a1] M (some (.int o)) M := by
  unfold F_X12_isSet at h
  refine Cn.of rfl (Nat.le_of_ble_eq_true rfl) ?_
  show G yX12_isSet cX12_isSet 2 (some .boolean) 1 0 [(0, .ref a0), (1, .int a1)] [] M (some (.int o)) M
  refine G.iload_n dX12_isSet_0 rfl rfl ?_
  refine G.iconst (0 : Int32) dX12_isSet_1 ki_0 ?_
  refine G.iconst (1 : Int32) dX12_isSet_2 ki_1 ?_
  refine G.aload_n dX12_isSet_3 rfl rfl ?_
  refine G.iconst (1 : Int32) dX12_isSet_4 ki_1 ?_
  refine G.callVi (ci := 12) [.int (1 : Int32)] [.int (1 : Int32), .int (0 : Int32), .int a1] dX12_isSet_5 lkX12_383 okX12_has rfl (fun v hv => C_X12_has hv) (Nat.le_of_ble_eq_true rfl) rfl rfl (Nat.le_of_ble_eq_true rfl) h (fun v1 h => ?_)
  refine G.ishl dX12_isSet_8 ?_
  refine G.iconst (1 : Int32) dX12_isSet_9 ki_1 ?_
  refine G.isub dX12_isSet_10 ?_
  refine G.callSi [.int a1, .int (0 : Int32), .int (((1 : Int32) <<< (v1 &&& 31)) - (1 : Int32))] [] dX12_isSet_11 lkX12_386 okX12_in (fun v hv => C_X12_in hv) (Nat.le_of_ble_eq_true rfl) rfl rfl (Nat.le_of_ble_eq_true rfl) h (fun v2 h => ?_)
  refine gd_elim h (fun c3 h => ?_)
  exact G.iret dX12_isSet_14 rfl (c3) h
