-- OnlyUpward$Tokens.withLetter(JI)J
set_option maxRecDepth 100000 in
set_option maxHeartbeats 4000000 in
def F_X9_withLetter (n : Nat) (M : AM) (a0 : Int64) (a2 : Int32) : Option Int64 :=
  some ((a0 * (27 : Int64)) + (((a2 - (97 : Int32)) + (1 : Int32))).toInt64)
set_option maxRecDepth 100000 in
set_option maxHeartbeats 4000000 in
theorem C_X9_withLetter {n : Nat} {M : AM} {a0 : Int64} {a2 : Int32} {o : Int64} (h : F_X9_withLetter n M a0 a2 = some o) : Cn yX9_withLetter cX9_withLetter 3 (some .long) 0 [.long a0, .int a2] M (some (.long o)) M := by
  unfold F_X9_withLetter at h
  refine Cn.of rfl (Nat.le_of_ble_eq_true rfl) ?_
  show G yX9_withLetter cX9_withLetter 3 (some .long) 0 0 [(0, .long a0), (2, .int a2)] [] M (some (.long o)) M
  refine G.lload_n dX9_withLetter_0 rfl rfl ?_
  refine G.ldc2 (27 : Int64) dX9_withLetter_1 kcX9_45 ?_
  refine G.lmul dX9_withLetter_4 ?_
  refine G.iload_n dX9_withLetter_5 rfl rfl ?_
  refine G.bipush (97 : Int32) dX9_withLetter_6 kb_97 ?_
  refine G.isub dX9_withLetter_8 ?_
  refine G.iconst (1 : Int32) dX9_withLetter_9 ki_1 ?_
  refine G.iadd dX9_withLetter_10 ?_
  refine G.i2l dX9_withLetter_11 ?_
  refine G.ladd dX9_withLetter_12 ?_
  exact G.lret dX9_withLetter_13 rfl h
-- OnlyUpward$Tokens.<init>()V
set_option maxRecDepth 100000 in
set_option maxHeartbeats 4000000 in
def F_X9_init (n : Nat) (M : AM) (a0 : Nat) : Option AM :=
  (nAr 0 M (402 : Int32)).bind fun M1 => (pR 9 0 M1 a0 (mK M).length).bind fun M2 => (nAr 0 M2 (402 : Int32)).bind fun M3 => (pR 9 1 M3 a0 (mK M2).length).bind fun M4 => (nAr 2 M4 (402 : Int32)).bind fun M5 => (pR 9 2 M5 a0 (mK M4).length).bind fun M6 => (nAr 2 M6 (20 : Int32)).bind fun M7 => (pR 9 3 M7 a0 (mK M6).length).bind fun M8 => (pI 9 4 M8 a0 (0 : Int32)).bind fun M9 => (iter (fun (s10 : Int32 × Int32 × AM) => (F_J0_length_8abf5 n s10.2.2 ).bind fun v11 => if v11 ≤ s10.2.1 then some (.inr s10.2.2) else if (20 : Int32) ≤ s10.1 then some (.inr s10.2.2) else (F_J0_charAt_5068e n s10.2.2 s10.2.1).bind fun v14 => jn (fun (u15 : Int32) (M16 : AM) => some (.inl (u15, (s10.2.1 + (1 : Int32)), M16))) fun j17 => if v14 = (32 : Int32) then j17 (s10.1 + (1 : Int32)) s10.2.2 else (gR 9 3 s10.2.2 a0).bind fun v19 => (gR 9 3 s10.2.2 a0).bind fun v20 => (rdL s10.2.2 v20 s10.1).bind fun v21 => (F_X9_withLetter n s10.2.2 v21 v14).bind fun v22 => (wrL s10.2.2 v19 s10.1 v22).bind fun M23 => j17 s10.1 M23) n ((0 : Int32), (0 : Int32), M9)).bind fun (e10 : AM) => some e10
set_option maxRecDepth 100000 in
set_option maxHeartbeats 4000000 in
theorem C_X9_init {n : Nat} {M : AM} {a0 : Nat} {o : AM} (h : F_X9_init n M a0 = some o) : Cn yX9_init cX9_init 4 none 4 [.ref a0] M none o := by
  unfold F_X9_init at h
  refine Cn.of rfl (Nat.le_of_ble_eq_true rfl) ?_
  show G yX9_init cX9_init 4 none 4 0 [(0, .ref a0)] [] M none o
  refine G.aload_n dX9_init_0 rfl rfl ?_
  refine G.objInit dX9_init_1 loX9_3 io_1 io_2 (Nat.le_of_ble_eq_true rfl) (Nat.le_of_ble_eq_true rfl) ?_
  refine G.aload_n dX9_init_4 rfl rfl ?_
  refine G.sipush (402 : Int32) dX9_init_5 ks_402 ?_
  refine G.newa 0 dX9_init_8 (by decide) arc_0 h (fun M1 h => ?_)
  refine G.putRF dX9_init_10 cok9 (by decide) flX9_9 rfl rfl rfl fr9_0 h (fun M2 h => ?_)
  refine G.aload_n dX9_init_13 rfl rfl ?_
  refine G.sipush (402 : Int32) dX9_init_14 ks_402 ?_
  refine G.newa 0 dX9_init_17 (by decide) arc_0 h (fun M3 h => ?_)
  refine G.putRF dX9_init_19 cok9 (by decide) flX9_15 rfl rfl rfl fr9_1 h (fun M4 h => ?_)
  refine G.aload_n dX9_init_22 rfl rfl ?_
  refine G.sipush (402 : Int32) dX9_init_23 ks_402 ?_
  refine G.newa 2 dX9_init_26 (by decide) arc_2 h (fun M5 h => ?_)
  refine G.putRF dX9_init_28 cok9 (by decide) flX9_18 rfl rfl rfl fr9_2 h (fun M6 h => ?_)
  refine G.aload_n dX9_init_31 rfl rfl ?_
  refine G.bipush (20 : Int32) dX9_init_32 kb_20 ?_
  refine G.newa 2 dX9_init_34 (by decide) arc_2 h (fun M7 h => ?_)
  refine G.putRF dX9_init_36 cok9 (by decide) flX9_22 rfl rfl rfl fr9_3 h (fun M8 h => ?_)
  refine G.aload_n dX9_init_39 rfl rfl ?_
  refine G.iconst (0 : Int32) dX9_init_40 ki_0 ?_
  refine G.putI dX9_init_41 fkX9_25 nf9_4 ft9_4 h (fun M9 h => ?_)
  refine G.iconst (0 : Int32) dX9_init_44 ki_0 ?_
  refine G.istore_n (lv' := [(1, .int (0 : Int32)), (0, .ref a0)]) dX9_init_45 rfl (Nat.le_of_ble_eq_true rfl) rfl ?_
  refine G.iconst (0 : Int32) dX9_init_46 ki_0 ?_
  refine G.istore_n (lv' := [(2, .int (0 : Int32)), (1, .int (0 : Int32)), (0, .ref a0)]) dX9_init_47 rfl (Nat.le_of_ble_eq_true rfl) rfl ?_
  refine G.sub (lv' := [(0, .ref a0), (1, .int (0 : Int32)), (2, .int (0 : Int32))]) [2, 1, 0] rfl ?_
  refine loopE (fun (s10 : Int32 × Int32 × AM) => G yX9_init cX9_init 4 none 4 48 [(0, .ref a0), (1, .int s10.1), (2, .int s10.2.1)] [] s10.2.2 none o) (fun (e10 : AM) => G yX9_init cX9_init 4 none 4 104 [] [] e10 none o) h ?_ ?_
  · intro e10 h
    show G yX9_init cX9_init 4 none 4 104 [] [] e10 none o
    exact G.vretW dX9_init_104 rfl h
  · intro s10 x10 h K10
    show G yX9_init cX9_init 4 none 4 48 [(0, .ref a0), (1, .int s10.1), (2, .int s10.2.1)] [] s10.2.2 none o
    refine G.iload_n dX9_init_48 rfl rfl ?_
    refine G.ldcS rfl rfl dX9_init_49 ?_
    refine G.callTi [] [.int s10.2.1] dX9_init_51 ltX9_31 okJ0_length_8abf5 rfl (fun v hv => C_J0_length_8abf5 hv) (Nat.le_of_ble_eq_true rfl) rfl rfl (Nat.le_of_ble_eq_true rfl) h (fun v11 h => ?_)
    refine G.icmp_ge 104 dX9_init_54 (by decide) h (fun c12 h => ?_) (fun c12 h => ?_)
    · refine G.sub (lv' := []) [] rfl ?_
      have h := leafR' h K10
      exact h
    · refine G.iload_n dX9_init_57 rfl rfl ?_
      refine G.bipush (20 : Int32) dX9_init_58 kb_20 ?_
      refine G.icmp_ge 104 dX9_init_60 (by decide) h (fun c13 h => ?_) (fun c13 h => ?_)
      · refine G.sub (lv' := []) [] rfl ?_
        have h := leafR' h K10
        exact h
      · refine G.ldcS rfl rfl dX9_init_63 ?_
        refine G.iload_n dX9_init_65 rfl rfl ?_
        refine G.callTi [.int s10.2.1] [] dX9_init_66 ltX9_37 okJ0_charAt_5068e rfl (fun v hv => C_J0_charAt_5068e hv) (Nat.le_of_ble_eq_true rfl) rfl rfl (Nat.le_of_ble_eq_true rfl) h (fun v14 h => ?_)
        refine G.istore_n (lv' := [(3, .int v14), (0, .ref a0), (1, .int s10.1), (2, .int s10.2.1)]) dX9_init_69 rfl (Nat.le_of_ble_eq_true rfl) rfl ?_
        refine G.iload_n dX9_init_70 rfl rfl ?_
        refine G.bipush (32 : Int32) dX9_init_71 kb_32 ?_
        refine jn_elim (fun j17 => ∀ (u15 : Int32) (M16 : AM), j17 u15 M16 = some x10 → G yX9_init cX9_init 4 none 4 98 [(0, .ref a0), (1, .int u15), (2, .int s10.2.1)] [] M16 none o) h ?_ ?_
        · intro u15 M16 h
          refine G.iinc s10.2.1 (w := (s10.2.1 + (1 : Int32))) (lv' := [(2, .int (s10.2.1 + (1 : Int32))), (0, .ref a0), (1, .int u15)]) dX9_init_98 rfl rfl (Nat.le_of_ble_eq_true rfl) rfl ?_
          refine G.goto 48 dX9_init_101 (by decide) ?_
          refine G.sub (lv' := [(0, .ref a0), (1, .int u15), (2, .int (s10.2.1 + (1 : Int32)))]) [1, 2, 0] rfl ?_
          have h := leafL' h K10
          exact h
        · intro j17 Jj17 h
          refine G.icmp_ne 82 dX9_init_73 (by decide) h (fun c18 h => ?_) (fun c18 h => ?_)
          · refine G.iinc s10.1 (w := (s10.1 + (1 : Int32))) (lv' := [(1, .int (s10.1 + (1 : Int32))), (3, .int v14), (0, .ref a0), (2, .int s10.2.1)]) dX9_init_76 rfl rfl (Nat.le_of_ble_eq_true rfl) rfl ?_
            refine G.goto 98 dX9_init_79 (by decide) ?_
            refine G.sub (lv' := [(0, .ref a0), (1, .int (s10.1 + (1 : Int32))), (2, .int s10.2.1)]) [2, 0, 3] rfl ?_
            exact Jj17 _ _ h
          · refine G.aload_n dX9_init_82 rfl rfl ?_
            refine G.getR dX9_init_83 fkX9_22 fr9_3 h (fun v19 h => ?_)
            refine G.iload_n dX9_init_86 rfl rfl ?_
            refine G.aload_n dX9_init_87 rfl rfl ?_
            refine G.getR dX9_init_88 fkX9_22 fr9_3 h (fun v20 h => ?_)
            refine G.iload_n dX9_init_91 rfl rfl ?_
            refine G.lald dX9_init_92 h (fun v21 h => ?_)
            refine G.iload_n dX9_init_93 rfl rfl ?_
            refine G.callSl [.long v21, .int v14] [.int s10.1, .ref v19] dX9_init_94 lkX9_41 okX9_withLetter (fun v hv => C_X9_withLetter hv) (Nat.le_of_ble_eq_true rfl) rfl rfl (Nat.le_of_ble_eq_true rfl) h (fun v22 h => ?_)
            refine G.last dX9_init_97 h (fun M23 h => ?_)
            refine G.sub (lv' := [(0, .ref a0), (1, .int s10.1), (2, .int s10.2.1)]) [1, 2, 3] rfl ?_
            exact Jj17 _ _ h
-- OnlyUpward$Grammar.<init>(LOnlyUpward$Tokens;)V
set_option maxRecDepth 100000 in
set_option maxHeartbeats 4000000 in
def F_X2_init (n : Nat) (M : AM) (a0 : Nat) (a1 : Nat) : Option AM :=
  (nAr 0 M (11 : Int32)).bind fun M1 => (pR 2 1 M1 a0 (mK M).length).bind fun M2 => (nAr 0 M2 (400 : Int32)).bind fun M3 => (pR 2 2 M3 a0 (mK M2).length).bind fun M4 => (pI 2 3 M4 a0 (0 : Int32)).bind fun M5 => (pI 2 4 M5 a0 (0 : Int32)).bind fun M6 => (pI 2 5 M6 a0 (0 : Int32)).bind fun M7 => (pI 2 6 M7 a0 (0 : Int32)).bind fun M8 => (pZ 2 7 M8 a0 (0 : Int32)).bind fun M9 => (pZ 2 8 M9 a0 (0 : Int32)).bind fun M10 => (pZ 2 9 M10 a0 (0 : Int32)).bind fun M11 => (pR 2 0 M11 a0 a1).bind fun M12 => some M12
set_option maxRecDepth 100000 in
set_option maxHeartbeats 4000000 in
theorem C_X2_init {n : Nat} {M : AM} {a0 : Nat} {a1 : Nat} {o : AM} (h : F_X2_init n M a0 a1 = some o) : Cn yX2_init cX2_init 2 none 1 [.ref a0, .ref a1] M none o := by
  unfold F_X2_init at h
  refine Cn.of rfl (Nat.le_of_ble_eq_true rfl) ?_
  show G yX2_init cX2_init 2 none 1 0 [(0, .ref a0), (1, .ref a1)] [] M none o
  refine G.aload_n dX2_init_0 rfl rfl ?_
  refine G.objInit dX2_init_1 loX2_3 io_1 io_2 (Nat.le_of_ble_eq_true rfl) (Nat.le_of_ble_eq_true rfl) ?_
  refine G.aload_n dX2_init_4 rfl rfl ?_
  refine G.bipush (11 : Int32) dX2_init_5 kb_11 ?_
  refine G.newa 0 dX2_init_7 (by decide) arc_0 h (fun M1 h => ?_)
  refine G.putRF dX2_init_9 cok2 (by decide) flX2_9 rfl rfl rfl fr2_1 h (fun M2 h => ?_)
  refine G.aload_n dX2_init_12 rfl rfl ?_
  refine G.sipush (400 : Int32) dX2_init_13 ks_400 ?_
  refine G.newa 0 dX2_init_16 (by decide) arc_0 h (fun M3 h => ?_)
  refine G.putRF dX2_init_18 cok2 (by decide) flX2_15 rfl rfl rfl fr2_2 h (fun M4 h => ?_)
  refine G.aload_n dX2_init_21 rfl rfl ?_
  refine G.iconst (0 : Int32) dX2_init_22 ki_0 ?_
  refine G.putI dX2_init_23 fkX2_18 nf2_3 ft2_3 h (fun M5 h => ?_)
  refine G.aload_n dX2_init_26 rfl rfl ?_
  refine G.iconst (0 : Int32) dX2_init_27 ki_0 ?_
  refine G.putI dX2_init_28 fkX2_22 nf2_4 ft2_4 h (fun M6 h => ?_)
  refine G.aload_n dX2_init_31 rfl rfl ?_
  refine G.iconst (0 : Int32) dX2_init_32 ki_0 ?_
  refine G.putI dX2_init_33 fkX2_25 nf2_5 ft2_5 h (fun M7 h => ?_)
  refine G.aload_n dX2_init_36 rfl rfl ?_
  refine G.iconst (0 : Int32) dX2_init_37 ki_0 ?_
  refine G.putI dX2_init_38 fkX2_28 nf2_6 ft2_6 h (fun M8 h => ?_)
  refine G.aload_n dX2_init_41 rfl rfl ?_
  refine G.iconst (0 : Int32) dX2_init_42 ki_0 ?_
  refine G.putZ dX2_init_43 fkX2_31 nf2_7 ft2_7 h (fun M9 h => ?_)
  refine G.aload_n dX2_init_46 rfl rfl ?_
  refine G.iconst (0 : Int32) dX2_init_47 ki_0 ?_
  refine G.putZ dX2_init_48 fkX2_35 nf2_8 ft2_8 h (fun M10 h => ?_)
  refine G.aload_n dX2_init_51 rfl rfl ?_
  refine G.iconst (0 : Int32) dX2_init_52 ki_0 ?_
  refine G.putZ dX2_init_53 fkX2_38 nf2_9 ft2_9 h (fun M11 h => ?_)
  refine G.aload_n dX2_init_56 rfl rfl ?_
  refine G.aload_n dX2_init_57 rfl rfl ?_
  refine G.putRF dX2_init_58 cok2 (by decide) flX2_41 rfl rfl rfl fr2_0 h (fun M12 h => ?_)
  exact G.vretW dX2_init_61 rfl h
-- OnlyUpward$Teller.<init>(LOnlyUpward$Tokens;)V
set_option maxRecDepth 100000 in
set_option maxHeartbeats 4000000 in
def F_X8_init (n : Nat) (M : AM) (a0 : Nat) (a1 : Nat) : Option AM :=
  (nAr 2 M (32 : Int32)).bind fun M1 => (pR 8 1 M1 a0 (mK M).length).bind fun M2 => (nAr 0 M2 (32 : Int32)).bind fun M3 => (pR 8 2 M3 a0 (mK M2).length).bind fun M4 => (nAr 0 M4 (32 : Int32)).bind fun M5 => (pR 8 3 M5 a0 (mK M4).length).bind fun M6 => (pI 8 4 M6 a0 (0 : Int32)).bind fun M7 => (pI 8 5 M7 a0 (0 : Int32)).bind fun M8 => (pI 8 6 M8 a0 (0 : Int32)).bind fun M9 => (pR 8 0 M9 a0 a1).bind fun M10 => some M10
set_option maxRecDepth 100000 in
set_option maxHeartbeats 4000000 in
theorem C_X8_init {n : Nat} {M : AM} {a0 : Nat} {a1 : Nat} {o : AM} (h : F_X8_init n M a0 a1 = some o) : Cn yX8_init cX8_init 2 none 1 [.ref a0, .ref a1] M none o := by
  unfold F_X8_init at h
  refine Cn.of rfl (Nat.le_of_ble_eq_true rfl) ?_
  show G yX8_init cX8_init 2 none 1 0 [(0, .ref a0), (1, .ref a1)] [] M none o
  refine G.aload_n dX8_init_0 rfl rfl ?_
  refine G.objInit dX8_init_1 loX8_3 io_1 io_2 (Nat.le_of_ble_eq_true rfl) (Nat.le_of_ble_eq_true rfl) ?_
  refine G.aload_n dX8_init_4 rfl rfl ?_
  refine G.bipush (32 : Int32) dX8_init_5 kb_32 ?_
  refine G.newa 2 dX8_init_7 (by decide) arc_2 h (fun M1 h => ?_)
  refine G.putRF dX8_init_9 cok8 (by decide) flX8_9 rfl rfl rfl fr8_1 h (fun M2 h => ?_)
  refine G.aload_n dX8_init_12 rfl rfl ?_
  refine G.bipush (32 : Int32) dX8_init_13 kb_32 ?_
  refine G.newa 0 dX8_init_15 (by decide) arc_0 h (fun M3 h => ?_)
  refine G.putRF dX8_init_17 cok8 (by decide) flX8_15 rfl rfl rfl fr8_2 h (fun M4 h => ?_)
  refine G.aload_n dX8_init_20 rfl rfl ?_
  refine G.bipush (32 : Int32) dX8_init_21 kb_32 ?_
  refine G.newa 0 dX8_init_23 (by decide) arc_0 h (fun M5 h => ?_)
  refine G.putRF dX8_init_25 cok8 (by decide) flX8_19 rfl rfl rfl fr8_3 h (fun M6 h => ?_)
  refine G.aload_n dX8_init_28 rfl rfl ?_
  refine G.iconst (0 : Int32) dX8_init_29 ki_0 ?_
  refine G.putI dX8_init_30 fkX8_22 nf8_4 ft8_4 h (fun M7 h => ?_)
  refine G.aload_n dX8_init_33 rfl rfl ?_
  refine G.iconst (0 : Int32) dX8_init_34 ki_0 ?_
  refine G.putI dX8_init_35 fkX8_26 nf8_5 ft8_5 h (fun M8 h => ?_)
  refine G.aload_n dX8_init_38 rfl rfl ?_
  refine G.iconst (0 : Int32) dX8_init_39 ki_0 ?_
  refine G.putI dX8_init_40 fkX8_29 nf8_6 ft8_6 h (fun M9 h => ?_)
  refine G.aload_n dX8_init_43 rfl rfl ?_
  refine G.aload_n dX8_init_44 rfl rfl ?_
  refine G.putRF dX8_init_45 cok8 (by decide) flX8_32 rfl rfl rfl fr8_0 h (fun M10 h => ?_)
  exact G.vretW dX8_init_48 rfl h
-- OnlyUpward$Laws.<init>()V
set_option maxRecDepth 100000 in
set_option maxHeartbeats 4000000 in
def F_X4_init (n : Nat) (M : AM) (a0 : Nat) : Option AM :=
  (nAr 0 M (400 : Int32)).bind fun M1 => (pR 4 0 M1 a0 (mK M).length).bind fun M2 => (nAr 0 M2 (400 : Int32)).bind fun M3 => (pR 4 1 M3 a0 (mK M2).length).bind fun M4 => (nAr 0 M4 (8 : Int32)).bind fun M5 => (pR 4 2 M5 a0 (mK M4).length).bind fun M6 => (nAr 0 M6 (8 : Int32)).bind fun M7 => (pR 4 3 M7 a0 (mK M6).length).bind fun M8 => (nAr 0 M8 (2 : Int32)).bind fun M9 => (pR 4 4 M9 a0 (mK M8).length).bind fun M10 => (nAr 0 M10 (4 : Int32)).bind fun M11 => (pR 4 5 M11 a0 (mK M10).length).bind fun M12 => (nAr 0 M12 (32 : Int32)).bind fun M13 => (pR 4 6 M13 a0 (mK M12).length).bind fun M14 => (pI 4 7 M14 a0 (0 : Int32)).bind fun M15 => (pI 4 8 M15 a0 (0 : Int32)).bind fun M16 => some M16
set_option maxRecDepth 100000 in
set_option maxHeartbeats 4000000 in
theorem C_X4_init {n : Nat} {M : AM} {a0 : Nat} {o : AM} (h : F_X4_init n M a0 = some o) : Cn yX4_init cX4_init 1 none 1 [.ref a0] M none o := by
  unfold F_X4_init at h
  refine Cn.of rfl (Nat.le_of_ble_eq_true rfl) ?_
  show G yX4_init cX4_init 1 none 1 0 [(0, .ref a0)] [] M none o
  refine G.aload_n dX4_init_0 rfl rfl ?_
  refine G.objInit dX4_init_1 loX4_3 io_1 io_2 (Nat.le_of_ble_eq_true rfl) (Nat.le_of_ble_eq_true rfl) ?_
  refine G.aload_n dX4_init_4 rfl rfl ?_
  refine G.sipush (400 : Int32) dX4_init_5 ks_400 ?_
  refine G.newa 0 dX4_init_8 (by decide) arc_0 h (fun M1 h => ?_)
  refine G.putRF dX4_init_10 cok4 (by decide) flX4_9 rfl rfl rfl fr4_0 h (fun M2 h => ?_)
  refine G.aload_n dX4_init_13 rfl rfl ?_
  refine G.sipush (400 : Int32) dX4_init_14 ks_400 ?_
  refine G.newa 0 dX4_init_17 (by decide) arc_0 h (fun M3 h => ?_)
  refine G.putRF dX4_init_19 cok4 (by decide) flX4_15 rfl rfl rfl fr4_1 h (fun M4 h => ?_)
  refine G.aload_n dX4_init_22 rfl rfl ?_
  refine G.bipush (8 : Int32) dX4_init_23 kb_8 ?_
  refine G.newa 0 dX4_init_25 (by decide) arc_0 h (fun M5 h => ?_)
  refine G.putRF dX4_init_27 cok4 (by decide) flX4_18 rfl rfl rfl fr4_2 h (fun M6 h => ?_)
  refine G.aload_n dX4_init_30 rfl rfl ?_
  refine G.bipush (8 : Int32) dX4_init_31 kb_8 ?_
  refine G.newa 0 dX4_init_33 (by decide) arc_0 h (fun M7 h => ?_)
  refine G.putRF dX4_init_35 cok4 (by decide) flX4_21 rfl rfl rfl fr4_3 h (fun M8 h => ?_)
  refine G.aload_n dX4_init_38 rfl rfl ?_
  refine G.iconst (2 : Int32) dX4_init_39 ki_2 ?_
  refine G.newa 0 dX4_init_40 (by decide) arc_0 h (fun M9 h => ?_)
  refine G.putRF dX4_init_42 cok4 (by decide) flX4_24 rfl rfl rfl fr4_4 h (fun M10 h => ?_)
  refine G.aload_n dX4_init_45 rfl rfl ?_
  refine G.iconst (4 : Int32) dX4_init_46 ki_4 ?_
  refine G.newa 0 dX4_init_47 (by decide) arc_0 h (fun M11 h => ?_)
  refine G.putRF dX4_init_49 cok4 (by decide) flX4_27 rfl rfl rfl fr4_5 h (fun M12 h => ?_)
  refine G.aload_n dX4_init_52 rfl rfl ?_
  refine G.bipush (32 : Int32) dX4_init_53 kb_32 ?_
  refine G.newa 0 dX4_init_55 (by decide) arc_0 h (fun M13 h => ?_)
  refine G.putRF dX4_init_57 cok4 (by decide) flX4_30 rfl rfl rfl fr4_6 h (fun M14 h => ?_)
  refine G.aload_n dX4_init_60 rfl rfl ?_
  refine G.iconst (0 : Int32) dX4_init_61 ki_0 ?_
  refine G.putI dX4_init_62 fkX4_33 nf4_7 ft4_7 h (fun M15 h => ?_)
  refine G.aload_n dX4_init_65 rfl rfl ?_
  refine G.iconst (0 : Int32) dX4_init_66 ki_0 ?_
  refine G.putI dX4_init_67 fkX4_37 nf4_8 ft4_8 h (fun M16 h => ?_)
  exact G.vretW dX4_init_70 rfl h
-- OnlyUpward$Laws.clear()V
set_option maxRecDepth 100000 in
set_option maxHeartbeats 4000000 in
def F_X4_clear (n : Nat) (M : AM) (a0 : Nat) : Option AM :=
  (pI 4 7 M a0 (0 : Int32)).bind fun M1 => (gR 4 4 M1 a0).bind fun v2 => (F_J7_fill_53178 n M1 v2 (0 : Int32)).bind fun M4 => some M4
set_option maxRecDepth 100000 in
set_option maxHeartbeats 4000000 in
theorem C_X4_clear {n : Nat} {M : AM} {a0 : Nat} {o : AM} (h : F_X4_clear n M a0 = some o) : Cn yX4_clear cX4_clear 1 none 1 [.ref a0] M none o := by
  unfold F_X4_clear at h
  refine Cn.of rfl (Nat.le_of_ble_eq_true rfl) ?_
  show G yX4_clear cX4_clear 1 none 1 0 [(0, .ref a0)] [] M none o
  refine G.aload_n dX4_clear_0 rfl rfl ?_
  refine G.iconst (0 : Int32) dX4_clear_1 ki_0 ?_
  refine G.putI dX4_clear_2 fkX4_33 nf4_7 ft4_7 h (fun M1 h => ?_)
  refine G.aload_n dX4_clear_5 rfl rfl ?_
  refine G.getR dX4_clear_6 fkX4_24 fr4_4 h (fun v2 h => ?_)
  refine G.iconst (0 : Int32) dX4_clear_9 ki_0 ?_
  refine G.callSv [.ref v2, .int (0 : Int32)] [] dX4_clear_10 lkX4_40 okJ7_fill_53178 (fun v hv => C_J7_fill_53178 hv) (Nat.le_of_ble_eq_true rfl) rfl rfl (Nat.le_of_ble_eq_true rfl) h (fun M4 h => ?_)
  exact G.vretW dX4_clear_13 rfl h
-- OnlyUpward$World.clear()V
set_option maxRecDepth 100000 in
set_option maxHeartbeats 4000000 in
def F_X10_clear (n : Nat) (M : AM) (a0 : Nat) : Option AM :=
  (gR 10 0 M a0).bind fun v1 => (F_J7_fill_53178 n M v1 (0 : Int32)).bind fun M3 => (gR 10 4 M3 a0).bind fun v4 => (F_J7_fill_53178 n M3 v4 (0 : Int32)).bind fun M6 => (gR 10 5 M6 a0).bind fun v7 => (F_J7_fill_53178 n M6 v7 (0 : Int32)).bind fun M9 => (gR 10 13 M9 a0).bind fun v10 => (F_J7_fill_53178 n M9 v10 (-2 : Int32)).bind fun M12 => (gR 10 12 M12 a0).bind fun v13 => (rcv 4 M12 v13 (F_X4_clear n M12 v13)).bind fun M15 => some M15
set_option maxRecDepth 100000 in
set_option maxHeartbeats 4000000 in
theorem C_X10_clear {n : Nat} {M : AM} {a0 : Nat} {o : AM} (h : F_X10_clear n M a0 = some o) : Cn yX10_clear cX10_clear 1 none 2 [.ref a0] M none o := by
  unfold F_X10_clear at h
  refine Cn.of rfl (Nat.le_of_ble_eq_true rfl) ?_
  show G yX10_clear cX10_clear 1 none 2 0 [(0, .ref a0)] [] M none o
  refine G.aload_n dX10_clear_0 rfl rfl ?_
  refine G.getR dX10_clear_1 fkX10_9 fr10_0 h (fun v1 h => ?_)
  refine G.iconst (0 : Int32) dX10_clear_4 ki_0 ?_
  refine G.callSv [.ref v1, .int (0 : Int32)] [] dX10_clear_5 lkX10_70 okJ7_fill_53178 (fun v hv => C_J7_fill_53178 hv) (Nat.le_of_ble_eq_true rfl) rfl rfl (Nat.le_of_ble_eq_true rfl) h (fun M3 h => ?_)
  refine G.aload_n dX10_clear_8 rfl rfl ?_
  refine G.getR dX10_clear_9 fkX10_24 fr10_4 h (fun v4 h => ?_)
  refine G.iconst (0 : Int32) dX10_clear_12 ki_0 ?_
  refine G.callSv [.ref v4, .int (0 : Int32)] [] dX10_clear_13 lkX10_70 okJ7_fill_53178 (fun v hv => C_J7_fill_53178 hv) (Nat.le_of_ble_eq_true rfl) rfl rfl (Nat.le_of_ble_eq_true rfl) h (fun M6 h => ?_)
  refine G.aload_n dX10_clear_16 rfl rfl ?_
  refine G.getR dX10_clear_17 fkX10_27 fr10_5 h (fun v7 h => ?_)
  refine G.iconst (0 : Int32) dX10_clear_20 ki_0 ?_
  refine G.callSv [.ref v7, .int (0 : Int32)] [] dX10_clear_21 lkX10_70 okJ7_fill_53178 (fun v hv => C_J7_fill_53178 hv) (Nat.le_of_ble_eq_true rfl) rfl rfl (Nat.le_of_ble_eq_true rfl) h (fun M9 h => ?_)
  refine G.aload_n dX10_clear_24 rfl rfl ?_
  refine G.getR dX10_clear_25 fkX10_55 fr10_13 h (fun v10 h => ?_)
  refine G.bipush (-2 : Int32) dX10_clear_28 kb_m2 ?_
  refine G.callSv [.ref v10, .int (-2 : Int32)] [] dX10_clear_30 lkX10_70 okJ7_fill_53178 (fun v hv => C_J7_fill_53178 hv) (Nat.le_of_ble_eq_true rfl) rfl rfl (Nat.le_of_ble_eq_true rfl) h (fun M12 h => ?_)
  refine G.aload_n dX10_clear_33 rfl rfl ?_
  refine G.getR dX10_clear_34 fkX10_51 fr10_12 h (fun v13 h => ?_)
  refine G.callVv (ci := 4) [] [] dX10_clear_37 lkX10_76 okX4_clear rfl (fun v hv => C_X4_clear hv) (Nat.le_of_ble_eq_true rfl) rfl rfl (Nat.le_of_ble_eq_true rfl) h (fun M15 h => ?_)
  exact G.vretW dX10_clear_40 rfl h
-- OnlyUpward$World.<init>()V
set_option maxRecDepth 100000 in
set_option maxHeartbeats 4000000 in
def F_X10_init (n : Nat) (M : AM) (a0 : Nat) : Option AM :=
  (nAr 0 M (11 : Int32)).bind fun M1 => (pR 10 0 M1 a0 (mK M).length).bind fun M2 => (nAr 0 M2 (10 : Int32)).bind fun M3 => (pR 10 1 M3 a0 (mK M2).length).bind fun M4 => (nAr 0 M4 (10 : Int32)).bind fun M5 => (pR 10 2 M5 a0 (mK M4).length).bind fun M6 => (nAr 0 M6 (6 : Int32)).bind fun M7 => (pR 10 3 M7 a0 (mK M6).length).bind fun M8 => (nAr 0 M8 (6 : Int32)).bind fun M9 => (pR 10 4 M9 a0 (mK M8).length).bind fun M10 => (nAr 0 M10 (10 : Int32)).bind fun M11 => (pR 10 5 M11 a0 (mK M10).length).bind fun M12 => (nAr 0 M12 (12 : Int32)).bind fun M13 => (pR 10 6 M13 a0 (mK M12).length).bind fun M14 => (nAr 0 M14 (12 : Int32)).bind fun M15 => (pR 10 7 M15 a0 (mK M14).length).bind fun M16 => (nAr 0 M16 (12 : Int32)).bind fun M17 => (pR 10 8 M17 a0 (mK M16).length).bind fun M18 => (nAr 0 M18 (6 : Int32)).bind fun M19 => (pR 10 9 M19 a0 (mK M18).length).bind fun M20 => (nAr 0 M20 (6 : Int32)).bind fun M21 => (pR 10 10 M21 a0 (mK M20).length).bind fun M22 => (nAr 0 M22 (4 : Int32)).bind fun M23 => (pR 10 11 M23 a0 (mK M22).length).bind fun M24 => (nOb 4 M24).bind fun M25 => (F_X4_init n M25 (mK M24).length).bind fun M27 => (pR 10 12 M27 a0 (mK M24).length).bind fun M28 => (nAr 0 M28 (240 : Int32)).bind fun M29 => (pR 10 13 M29 a0 (mK M28).length).bind fun M30 => (nAr 0 M30 (144 : Int32)).bind fun M31 => (pR 10 14 M31 a0 (mK M30).length).bind fun M32 => (nAr 0 M32 (144 : Int32)).bind fun M33 => (pR 10 15 M33 a0 (mK M32).length).bind fun M34 => (nAr 0 M34 (240 : Int32)).bind fun M35 => (pR 10 16 M35 a0 (mK M34).length).bind fun M36 => (rcv 10 M36 a0 (F_X10_clear n M36 a0)).bind fun M38 => some M38
set_option maxRecDepth 100000 in
set_option maxHeartbeats 4000000 in
theorem C_X10_init {n : Nat} {M : AM} {a0 : Nat} {o : AM} (h : F_X10_init n M a0 = some o) : Cn yX10_init cX10_init 1 none 3 [.ref a0] M none o := by
  unfold F_X10_init at h
  refine Cn.of rfl (Nat.le_of_ble_eq_true rfl) ?_
  show G yX10_init cX10_init 1 none 3 0 [(0, .ref a0)] [] M none o
  refine G.aload_n dX10_init_0 rfl rfl ?_
  refine G.objInit dX10_init_1 loX10_3 io_1 io_2 (Nat.le_of_ble_eq_true rfl) (Nat.le_of_ble_eq_true rfl) ?_
  refine G.aload_n dX10_init_4 rfl rfl ?_
  refine G.bipush (11 : Int32) dX10_init_5 kb_11 ?_
  refine G.newa 0 dX10_init_7 (by decide) arc_0 h (fun M1 h => ?_)
  refine G.putRF dX10_init_9 cok10 (by decide) flX10_9 rfl rfl rfl fr10_0 h (fun M2 h => ?_)
  refine G.aload_n dX10_init_12 rfl rfl ?_
  refine G.bipush (10 : Int32) dX10_init_13 kb_10 ?_
  refine G.newa 0 dX10_init_15 (by decide) arc_0 h (fun M3 h => ?_)
  refine G.putRF dX10_init_17 cok10 (by decide) flX10_15 rfl rfl rfl fr10_1 h (fun M4 h => ?_)
  refine G.aload_n dX10_init_20 rfl rfl ?_
  refine G.bipush (10 : Int32) dX10_init_21 kb_10 ?_
  refine G.newa 0 dX10_init_23 (by decide) arc_0 h (fun M5 h => ?_)
  refine G.putRF dX10_init_25 cok10 (by decide) flX10_18 rfl rfl rfl fr10_2 h (fun M6 h => ?_)
  refine G.aload_n dX10_init_28 rfl rfl ?_
  refine G.bipush (6 : Int32) dX10_init_29 kb_6 ?_
  refine G.newa 0 dX10_init_31 (by decide) arc_0 h (fun M7 h => ?_)
  refine G.putRF dX10_init_33 cok10 (by decide) flX10_21 rfl rfl rfl fr10_3 h (fun M8 h => ?_)
  refine G.aload_n dX10_init_36 rfl rfl ?_
  refine G.bipush (6 : Int32) dX10_init_37 kb_6 ?_
  refine G.newa 0 dX10_init_39 (by decide) arc_0 h (fun M9 h => ?_)
  refine G.putRF dX10_init_41 cok10 (by decide) flX10_24 rfl rfl rfl fr10_4 h (fun M10 h => ?_)
  refine G.aload_n dX10_init_44 rfl rfl ?_
  refine G.bipush (10 : Int32) dX10_init_45 kb_10 ?_
  refine G.newa 0 dX10_init_47 (by decide) arc_0 h (fun M11 h => ?_)
  refine G.putRF dX10_init_49 cok10 (by decide) flX10_27 rfl rfl rfl fr10_5 h (fun M12 h => ?_)
  refine G.aload_n dX10_init_52 rfl rfl ?_
  refine G.bipush (12 : Int32) dX10_init_53 kb_12 ?_
  refine G.newa 0 dX10_init_55 (by decide) arc_0 h (fun M13 h => ?_)
  refine G.putRF dX10_init_57 cok10 (by decide) flX10_30 rfl rfl rfl fr10_6 h (fun M14 h => ?_)
  refine G.aload_n dX10_init_60 rfl rfl ?_
  refine G.bipush (12 : Int32) dX10_init_61 kb_12 ?_
  refine G.newa 0 dX10_init_63 (by decide) arc_0 h (fun M15 h => ?_)
  refine G.putRF dX10_init_65 cok10 (by decide) flX10_33 rfl rfl rfl fr10_7 h (fun M16 h => ?_)
  refine G.aload_n dX10_init_68 rfl rfl ?_
  refine G.bipush (12 : Int32) dX10_init_69 kb_12 ?_
  refine G.newa 0 dX10_init_71 (by decide) arc_0 h (fun M17 h => ?_)
  refine G.putRF dX10_init_73 cok10 (by decide) flX10_36 rfl rfl rfl fr10_8 h (fun M18 h => ?_)
  refine G.aload_n dX10_init_76 rfl rfl ?_
  refine G.bipush (6 : Int32) dX10_init_77 kb_6 ?_
  refine G.newa 0 dX10_init_79 (by decide) arc_0 h (fun M19 h => ?_)
  refine G.putRF dX10_init_81 cok10 (by decide) flX10_39 rfl rfl rfl fr10_9 h (fun M20 h => ?_)
  refine G.aload_n dX10_init_84 rfl rfl ?_
  refine G.bipush (6 : Int32) dX10_init_85 kb_6 ?_
  refine G.newa 0 dX10_init_87 (by decide) arc_0 h (fun M21 h => ?_)
  refine G.putRF dX10_init_89 cok10 (by decide) flX10_42 rfl rfl rfl fr10_10 h (fun M22 h => ?_)
  refine G.aload_n dX10_init_92 rfl rfl ?_
  refine G.iconst (4 : Int32) dX10_init_93 ki_4 ?_
  refine G.newa 0 dX10_init_94 (by decide) arc_0 h (fun M23 h => ?_)
  refine G.putRF dX10_init_96 cok10 (by decide) flX10_45 rfl rfl rfl fr10_11 h (fun M24 h => ?_)
  refine G.aload_n dX10_init_99 rfl rfl ?_
  refine G.new dX10_init_100 cok4 knX10_48 kiX4 kzX4 h (fun M25 h => ?_)
  refine G.dup dX10_init_103 rfl ?_
  refine G.callI [] [.ref (mK M24).length, .ref a0] dX10_init_104 lkX10_50 okX4_init (fun v hv => C_X4_init hv) (Nat.le_of_ble_eq_true rfl) rfl rfl (Nat.le_of_ble_eq_true rfl) h (fun M27 h => ?_)
  refine G.putRF dX10_init_107 cok10 (by decide) flX10_51 rfl rfl rfl fr10_12 h (fun M28 h => ?_)
  refine G.aload_n dX10_init_110 rfl rfl ?_
  refine G.sipush (240 : Int32) dX10_init_111 ks_240 ?_
  refine G.newa 0 dX10_init_114 (by decide) arc_0 h (fun M29 h => ?_)
  refine G.putRF dX10_init_116 cok10 (by decide) flX10_55 rfl rfl rfl fr10_13 h (fun M30 h => ?_)
  refine G.aload_n dX10_init_119 rfl rfl ?_
  refine G.sipush (144 : Int32) dX10_init_120 ks_144 ?_
  refine G.newa 0 dX10_init_123 (by decide) arc_0 h (fun M31 h => ?_)
  refine G.putRF dX10_init_125 cok10 (by decide) flX10_58 rfl rfl rfl fr10_14 h (fun M32 h => ?_)
  refine G.aload_n dX10_init_128 rfl rfl ?_
  refine G.sipush (144 : Int32) dX10_init_129 ks_144 ?_
  refine G.newa 0 dX10_init_132 (by decide) arc_0 h (fun M33 h => ?_)
  refine G.putRF dX10_init_134 cok10 (by decide) flX10_61 rfl rfl rfl fr10_15 h (fun M34 h => ?_)
  refine G.aload_n dX10_init_137 rfl rfl ?_
  refine G.sipush (240 : Int32) dX10_init_138 ks_240 ?_
  refine G.newa 0 dX10_init_141 (by decide) arc_0 h (fun M35 h => ?_)
  refine G.putRF dX10_init_143 cok10 (by decide) flX10_64 rfl rfl rfl fr10_16 h (fun M36 h => ?_)
  refine G.aload_n dX10_init_146 rfl rfl ?_
  refine G.callVv (ci := 10) [] [] dX10_init_147 lkX10_67 okX10_clear rfl (fun v hv => C_X10_clear hv) (Nat.le_of_ble_eq_true rfl) rfl rfl (Nat.le_of_ble_eq_true rfl) h (fun M38 h => ?_)
  exact G.vretW dX10_init_150 rfl h
-- OnlyUpward$Plan.clear()V
set_option maxRecDepth 100000 in
set_option maxHeartbeats 4000000 in
def F_X5_clear (n : Nat) (M : AM) (a0 : Nat) : Option AM :=
  (pI 5 1 M a0 (0 : Int32)).bind fun M1 => (gR 5 3 M1 a0).bind fun v2 => (F_J7_fill_53178 n M1 v2 (-1 : Int32)).bind fun M4 => some M4
set_option maxRecDepth 100000 in
set_option maxHeartbeats 4000000 in
theorem C_X5_clear {n : Nat} {M : AM} {a0 : Nat} {o : AM} (h : F_X5_clear n M a0 = some o) : Cn yX5_clear cX5_clear 1 none 1 [.ref a0] M none o := by
  unfold F_X5_clear at h
  refine Cn.of rfl (Nat.le_of_ble_eq_true rfl) ?_
  show G yX5_clear cX5_clear 1 none 1 0 [(0, .ref a0)] [] M none o
  refine G.aload_n dX5_clear_0 rfl rfl ?_
  refine G.iconst (0 : Int32) dX5_clear_1 ki_0 ?_
  refine G.putI dX5_clear_2 fkX5_15 nf5_1 ft5_1 h (fun M1 h => ?_)
  refine G.aload_n dX5_clear_5 rfl rfl ?_
  refine G.getR dX5_clear_6 fkX5_22 fr5_3 h (fun v2 h => ?_)
  refine G.iconst (-1 : Int32) dX5_clear_9 ki_m1 ?_
  refine G.callSv [.ref v2, .int (-1 : Int32)] [] dX5_clear_10 lkX5_28 okJ7_fill_53178 (fun v hv => C_J7_fill_53178 hv) (Nat.le_of_ble_eq_true rfl) rfl rfl (Nat.le_of_ble_eq_true rfl) h (fun M4 h => ?_)
  exact G.vretW dX5_clear_13 rfl h
-- OnlyUpward$Plan.<init>()V
set_option maxRecDepth 100000 in
set_option maxHeartbeats 4000000 in
def F_X5_init (n : Nat) (M : AM) (a0 : Nat) : Option AM :=
  (nAr 0 M (150 : Int32)).bind fun M1 => (pR 5 0 M1 a0 (mK M).length).bind fun M2 => (pI 5 1 M2 a0 (0 : Int32)).bind fun M3 => (nAr 0 M3 (450 : Int32)).bind fun M4 => (pR 5 2 M4 a0 (mK M3).length).bind fun M5 => (nAr 0 M5 (3 : Int32)).bind fun M6 => (pR 5 3 M6 a0 (mK M5).length).bind fun M7 => (rcv 5 M7 a0 (F_X5_clear n M7 a0)).bind fun M9 => some M9
set_option maxRecDepth 100000 in
set_option maxHeartbeats 4000000 in
theorem C_X5_init {n : Nat} {M : AM} {a0 : Nat} {o : AM} (h : F_X5_init n M a0 = some o) : Cn yX5_init cX5_init 1 none 2 [.ref a0] M none o := by
  unfold F_X5_init at h
  refine Cn.of rfl (Nat.le_of_ble_eq_true rfl) ?_
  show G yX5_init cX5_init 1 none 2 0 [(0, .ref a0)] [] M none o
  refine G.aload_n dX5_init_0 rfl rfl ?_
  refine G.objInit dX5_init_1 loX5_3 io_1 io_2 (Nat.le_of_ble_eq_true rfl) (Nat.le_of_ble_eq_true rfl) ?_
  refine G.aload_n dX5_init_4 rfl rfl ?_
  refine G.sipush (150 : Int32) dX5_init_5 ks_150 ?_
  refine G.newa 0 dX5_init_8 (by decide) arc_0 h (fun M1 h => ?_)
  refine G.putRF dX5_init_10 cok5 (by decide) flX5_11 rfl rfl rfl fr5_0 h (fun M2 h => ?_)
  refine G.aload_n dX5_init_13 rfl rfl ?_
  refine G.iconst (0 : Int32) dX5_init_14 ki_0 ?_
  refine G.putI dX5_init_15 fkX5_15 nf5_1 ft5_1 h (fun M3 h => ?_)
  refine G.aload_n dX5_init_18 rfl rfl ?_
  refine G.sipush (450 : Int32) dX5_init_19 ks_450 ?_
  refine G.newa 0 dX5_init_22 (by decide) arc_0 h (fun M4 h => ?_)
  refine G.putRF dX5_init_24 cok5 (by decide) flX5_19 rfl rfl rfl fr5_2 h (fun M5 h => ?_)
  refine G.aload_n dX5_init_27 rfl rfl ?_
  refine G.iconst (3 : Int32) dX5_init_28 ki_3 ?_
  refine G.newa 0 dX5_init_29 (by decide) arc_0 h (fun M6 h => ?_)
  refine G.putRF dX5_init_31 cok5 (by decide) flX5_22 rfl rfl rfl fr5_3 h (fun M7 h => ?_)
  refine G.aload_n dX5_init_34 rfl rfl ?_
  refine G.callVv (ci := 5) [] [] dX5_init_35 lkX5_25 okX5_clear rfl (fun v hv => C_X5_clear hv) (Nat.le_of_ble_eq_true rfl) rfl rfl (Nat.le_of_ble_eq_true rfl) h (fun M9 h => ?_)
  exact G.vretW dX5_init_38 rfl h
-- OnlyUpward$Knowledge.<init>()V
set_option maxRecDepth 100000 in
set_option maxHeartbeats 4000000 in
def F_X3_init (n : Nat) (M : AM) (a0 : Nat) : Option AM :=
  (nAr 0 M (60 : Int32)).bind fun M1 => (pR 3 0 M1 a0 (mK M).length).bind fun M2 => some M2
set_option maxRecDepth 100000 in
set_option maxHeartbeats 4000000 in
theorem C_X3_init {n : Nat} {M : AM} {a0 : Nat} {o : AM} (h : F_X3_init n M a0 = some o) : Cn yX3_init cX3_init 1 none 1 [.ref a0] M none o := by
  unfold F_X3_init at h
  refine Cn.of rfl (Nat.le_of_ble_eq_true rfl) ?_
  show G yX3_init cX3_init 1 none 1 0 [(0, .ref a0)] [] M none o
  refine G.aload_n dX3_init_0 rfl rfl ?_
  refine G.objInit dX3_init_1 loX3_3 io_1 io_2 (Nat.le_of_ble_eq_true rfl) (Nat.le_of_ble_eq_true rfl) ?_
  refine G.aload_n dX3_init_4 rfl rfl ?_
  refine G.bipush (60 : Int32) dX3_init_5 kb_60 ?_
  refine G.newa 0 dX3_init_7 (by decide) arc_0 h (fun M1 h => ?_)
  refine G.putRF dX3_init_9 cok3 (by decide) flX3_9 rfl rfl rfl fr3_0 h (fun M2 h => ?_)
  exact G.vretW dX3_init_12 rfl h
-- OnlyUpward$Course.<init>()V
set_option maxRecDepth 100000 in
set_option maxHeartbeats 4000000 in
def F_X1_init (n : Nat) (M : AM) (a0 : Nat) : Option AM :=
  (nOb 3 M).bind fun M1 => (F_X3_init n M1 (mK M).length).bind fun M3 => (pR 1 0 M3 a0 (mK M).length).bind fun M4 => (nAr 0 M4 (600 : Int32)).bind fun M5 => (pR 1 1 M5 a0 (mK M4).length).bind fun M6 => (nAr 0 M6 (30 : Int32)).bind fun M7 => (pR 1 2 M7 a0 (mK M6).length).bind fun M8 => (nAr 0 M8 (10 : Int32)).bind fun M9 => (pR 1 3 M9 a0 (mK M8).length).bind fun M10 => (pI 1 4 M10 a0 (0 : Int32)).bind fun M11 => (pI 1 5 M11 a0 (0 : Int32)).bind fun M12 => some M12
set_option maxRecDepth 100000 in
set_option maxHeartbeats 4000000 in
theorem C_X1_init {n : Nat} {M : AM} {a0 : Nat} {o : AM} (h : F_X1_init n M a0 = some o) : Cn yX1_init cX1_init 1 none 2 [.ref a0] M none o := by
  unfold F_X1_init at h
  refine Cn.of rfl (Nat.le_of_ble_eq_true rfl) ?_
  show G yX1_init cX1_init 1 none 2 0 [(0, .ref a0)] [] M none o
  refine G.aload_n dX1_init_0 rfl rfl ?_
  refine G.objInit dX1_init_1 loX1_3 io_1 io_2 (Nat.le_of_ble_eq_true rfl) (Nat.le_of_ble_eq_true rfl) ?_
  refine G.aload_n dX1_init_4 rfl rfl ?_
  refine G.new dX1_init_5 cok3 knX1_9 kiX3 kzX3 h (fun M1 h => ?_)
  refine G.dup dX1_init_8 rfl ?_
  refine G.callI [] [.ref (mK M).length, .ref a0] dX1_init_9 lkX1_11 okX3_init (fun v hv => C_X3_init hv) (Nat.le_of_ble_eq_true rfl) rfl rfl (Nat.le_of_ble_eq_true rfl) h (fun M3 h => ?_)
  refine G.putRF dX1_init_12 cok1 (by decide) flX1_12 rfl rfl rfl fr1_0 h (fun M4 h => ?_)
  refine G.aload_n dX1_init_15 rfl rfl ?_
  refine G.sipush (600 : Int32) dX1_init_16 ks_600 ?_
  refine G.newa 0 dX1_init_19 (by decide) arc_0 h (fun M5 h => ?_)
  refine G.putRF dX1_init_21 cok1 (by decide) flX1_18 rfl rfl rfl fr1_1 h (fun M6 h => ?_)
  refine G.aload_n dX1_init_24 rfl rfl ?_
  refine G.bipush (30 : Int32) dX1_init_25 kb_30 ?_
  refine G.newa 0 dX1_init_27 (by decide) arc_0 h (fun M7 h => ?_)
  refine G.putRF dX1_init_29 cok1 (by decide) flX1_22 rfl rfl rfl fr1_2 h (fun M8 h => ?_)
  refine G.aload_n dX1_init_32 rfl rfl ?_
  refine G.bipush (10 : Int32) dX1_init_33 kb_10 ?_
  refine G.newa 0 dX1_init_35 (by decide) arc_0 h (fun M9 h => ?_)
  refine G.putRF dX1_init_37 cok1 (by decide) flX1_25 rfl rfl rfl fr1_3 h (fun M10 h => ?_)
  refine G.aload_n dX1_init_40 rfl rfl ?_
  refine G.iconst (0 : Int32) dX1_init_41 ki_0 ?_
  refine G.putI dX1_init_42 fkX1_28 nf1_4 ft1_4 h (fun M11 h => ?_)
  refine G.aload_n dX1_init_45 rfl rfl ?_
  refine G.iconst (0 : Int32) dX1_init_46 ki_0 ?_
  refine G.putI dX1_init_47 fkX1_32 nf1_5 ft1_5 h (fun M12 h => ?_)
  exact G.vretW dX1_init_50 rfl h
-- OnlyUpward$Spread.<init>()V
set_option maxRecDepth 100000 in
set_option maxHeartbeats 4000000 in
def F_X7_init (n : Nat) (M : AM) (a0 : Nat) : Option AM :=
  (nAr 0 M (10 : Int32)).bind fun M1 => (pR 7 0 M1 a0 (mK M).length).bind fun M2 => some M2
set_option maxRecDepth 100000 in
set_option maxHeartbeats 4000000 in
theorem C_X7_init {n : Nat} {M : AM} {a0 : Nat} {o : AM} (h : F_X7_init n M a0 = some o) : Cn yX7_init cX7_init 1 none 1 [.ref a0] M none o := by
  unfold F_X7_init at h
  refine Cn.of rfl (Nat.le_of_ble_eq_true rfl) ?_
  show G yX7_init cX7_init 1 none 1 0 [(0, .ref a0)] [] M none o
  refine G.aload_n dX7_init_0 rfl rfl ?_
  refine G.objInit dX7_init_1 loX7_3 io_1 io_2 (Nat.le_of_ble_eq_true rfl) (Nat.le_of_ble_eq_true rfl) ?_
  refine G.aload_n dX7_init_4 rfl rfl ?_
  refine G.bipush (10 : Int32) dX7_init_5 kb_10 ?_
  refine G.newa 0 dX7_init_7 (by decide) arc_0 h (fun M1 h => ?_)
  refine G.putRF dX7_init_9 cok7 (by decide) flX7_9 rfl rfl rfl fr7_0 h (fun M2 h => ?_)
  exact G.vretW dX7_init_12 rfl h
-- OnlyUpward$Cheapest.<init>()V
set_option maxRecDepth 100000 in
set_option maxHeartbeats 4000000 in
def F_X0_init (n : Nat) (M : AM) (a0 : Nat) : Option AM :=
  (pI 0 0 M a0 (-1 : Int32)).bind fun M1 => (pI 0 1 M1 a0 (-1 : Int32)).bind fun M2 => (nAr 0 M2 (0 : Int32)).bind fun M3 => (pR 0 2 M3 a0 (mK M2).length).bind fun M4 => some M4
set_option maxRecDepth 100000 in
set_option maxHeartbeats 4000000 in
theorem C_X0_init {n : Nat} {M : AM} {a0 : Nat} {o : AM} (h : F_X0_init n M a0 = some o) : Cn yX0_init cX0_init 1 none 1 [.ref a0] M none o := by
  unfold F_X0_init at h
  refine Cn.of rfl (Nat.le_of_ble_eq_true rfl) ?_
  show G yX0_init cX0_init 1 none 1 0 [(0, .ref a0)] [] M none o
  refine G.aload_n dX0_init_0 rfl rfl ?_
  refine G.objInit dX0_init_1 loX0_3 io_1 io_2 (Nat.le_of_ble_eq_true rfl) (Nat.le_of_ble_eq_true rfl) ?_
  refine G.aload_n dX0_init_4 rfl rfl ?_
  refine G.iconst (-1 : Int32) dX0_init_5 ki_m1 ?_
  refine G.putI dX0_init_6 fkX0_9 nf0_0 ft0_0 h (fun M1 h => ?_)
  refine G.aload_n dX0_init_9 rfl rfl ?_
  refine G.iconst (-1 : Int32) dX0_init_10 ki_m1 ?_
  refine G.putI dX0_init_11 fkX0_15 nf0_1 ft0_1 h (fun M2 h => ?_)
  refine G.aload_n dX0_init_14 rfl rfl ?_
  refine G.iconst (0 : Int32) dX0_init_15 ki_0 ?_
  refine G.newa 0 dX0_init_16 (by decide) arc_0 h (fun M3 h => ?_)
  refine G.putR dX0_init_18 fkX0_18 nf0_2 fr0_2 h (fun M4 h => ?_)
  exact G.vretW dX0_init_21 rfl h
-- OnlyUpward$Rule.<init>()V
set_option maxRecDepth 100000 in
set_option maxHeartbeats 4000000 in
def F_X6_init (n : Nat) (M : AM) (a0 : Nat) : Option AM :=
  (nOb 3 M).bind fun M1 => (F_X3_init n M1 (mK M).length).bind fun M3 => (pR 6 0 M3 a0 (mK M).length).bind fun M4 => (pI 6 1 M4 a0 (0 : Int32)).bind fun M5 => (pI 6 2 M5 a0 (0 : Int32)).bind fun M6 => (pZ 6 3 M6 a0 (0 : Int32)).bind fun M7 => some M7
set_option maxRecDepth 100000 in
set_option maxHeartbeats 4000000 in
theorem C_X6_init {n : Nat} {M : AM} {a0 : Nat} {o : AM} (h : F_X6_init n M a0 = some o) : Cn yX6_init cX6_init 1 none 2 [.ref a0] M none o := by
  unfold F_X6_init at h
  refine Cn.of rfl (Nat.le_of_ble_eq_true rfl) ?_
  show G yX6_init cX6_init 1 none 2 0 [(0, .ref a0)] [] M none o
  refine G.aload_n dX6_init_0 rfl rfl ?_
  refine G.objInit dX6_init_1 loX6_3 io_1 io_2 (Nat.le_of_ble_eq_true rfl) (Nat.le_of_ble_eq_true rfl) ?_
  refine G.aload_n dX6_init_4 rfl rfl ?_
  refine G.new dX6_init_5 cok3 knX6_9 kiX3 kzX3 h (fun M1 h => ?_)
  refine G.dup dX6_init_8 rfl ?_
  refine G.callI [] [.ref (mK M).length, .ref a0] dX6_init_9 lkX6_11 okX3_init (fun v hv => C_X3_init hv) (Nat.le_of_ble_eq_true rfl) rfl rfl (Nat.le_of_ble_eq_true rfl) h (fun M3 h => ?_)
  refine G.putRF dX6_init_12 cok6 (by decide) flX6_12 rfl rfl rfl fr6_0 h (fun M4 h => ?_)
  refine G.aload_n dX6_init_15 rfl rfl ?_
  refine G.iconst (0 : Int32) dX6_init_16 ki_0 ?_
  refine G.putI dX6_init_17 fkX6_18 nf6_1 ft6_1 h (fun M5 h => ?_)
  refine G.aload_n dX6_init_20 rfl rfl ?_
  refine G.iconst (0 : Int32) dX6_init_21 ki_0 ?_
  refine G.putI dX6_init_22 fkX6_22 nf6_2 ft6_2 h (fun M6 h => ?_)
  refine G.aload_n dX6_init_25 rfl rfl ?_
  refine G.iconst (0 : Int32) dX6_init_26 ki_0 ?_
  refine G.putZ dX6_init_27 fkX6_25 nf6_3 ft6_3 h (fun M7 h => ?_)
  exact G.vretW dX6_init_30 rfl h
-- OnlyUpward.<init>()V
set_option maxRecDepth 100000 in
set_option maxHeartbeats 4000000 in
def F_X11_init (n : Nat) (M : AM) (a0 : Nat) : Option AM :=
  (nAr 1 M (2000 : Int32)).bind fun M1 => (pR 11 0 M1 a0 (mK M).length).bind fun M2 => (pI 11 1 M2 a0 (0 : Int32)).bind fun M3 => (pI 11 2 M3 a0 (-1 : Int32)).bind fun M4 => (nOb 9 M4).bind fun M5 => (F_X9_init n M5 (mK M4).length).bind fun M7 => (pR 11 3 M7 a0 (mK M4).length).bind fun M8 => (nOb 2 M8).bind fun M9 => (gR 11 3 M9 a0).bind fun v10 => (F_X2_init n M9 (mK M8).length v10).bind fun M12 => (pR 11 4 M12 a0 (mK M8).length).bind fun M13 => (nOb 8 M13).bind fun M14 => (gR 11 3 M14 a0).bind fun v15 => (F_X8_init n M14 (mK M13).length v15).bind fun M17 => (pR 11 5 M17 a0 (mK M13).length).bind fun M18 => (nOb 10 M18).bind fun M19 => (F_X10_init n M19 (mK M18).length).bind fun M21 => (pR 11 6 M21 a0 (mK M18).length).bind fun M22 => (nOb 10 M22).bind fun M23 => (F_X10_init n M23 (mK M22).length).bind fun M25 => (pR 11 7 M25 a0 (mK M22).length).bind fun M26 => (nOb 5 M26).bind fun M27 => (F_X5_init n M27 (mK M26).length).bind fun M29 => (pR 11 8 M29 a0 (mK M26).length).bind fun M30 => (nOb 1 M30).bind fun M31 => (F_X1_init n M31 (mK M30).length).bind fun M33 => (pR 11 9 M33 a0 (mK M30).length).bind fun M34 => (pZ 11 10 M34 a0 (0 : Int32)).bind fun M35 => (nOb 1 M35).bind fun M36 => (F_X1_init n M36 (mK M35).length).bind fun M38 => (pR 11 11 M38 a0 (mK M35).length).bind fun M39 => (nOb 7 M39).bind fun M40 => (F_X7_init n M40 (mK M39).length).bind fun M42 => (pR 11 12 M42 a0 (mK M39).length).bind fun M43 => (nOb 0 M43).bind fun M44 => (F_X0_init n M44 (mK M43).length).bind fun M46 => (pR 11 13 M46 a0 (mK M43).length).bind fun M47 => (nOb 6 M47).bind fun M48 => (F_X6_init n M48 (mK M47).length).bind fun M50 => (pR 11 14 M50 a0 (mK M47).length).bind fun M51 => some M51
set_option maxRecDepth 100000 in
set_option maxHeartbeats 4000000 in
theorem C_X11_init {n : Nat} {M : AM} {a0 : Nat} {o : AM} (h : F_X11_init n M a0 = some o) : Cn yX11_init cX11_init 1 none 5 [.ref a0] M none o := by
  unfold F_X11_init at h
  refine Cn.of rfl (Nat.le_of_ble_eq_true rfl) ?_
  show G yX11_init cX11_init 1 none 5 0 [(0, .ref a0)] [] M none o
  refine G.aload_n dX11_init_0 rfl rfl ?_
  refine G.objInit dX11_init_1 loX11_1 io_1 io_2 (Nat.le_of_ble_eq_true rfl) (Nat.le_of_ble_eq_true rfl) ?_
  refine G.aload_n dX11_init_4 rfl rfl ?_
  refine G.sipush (2000 : Int32) dX11_init_5 ks_2000 ?_
  refine G.newa 1 dX11_init_8 (by decide) arc_1 h (fun M1 h => ?_)
  refine G.putRF dX11_init_10 cok11 (by decide) flX11_9 rfl rfl rfl fr11_0 h (fun M2 h => ?_)
  refine G.aload_n dX11_init_13 rfl rfl ?_
  refine G.iconst (0 : Int32) dX11_init_14 ki_0 ?_
  refine G.putI dX11_init_15 fkX11_13 nf11_1 ft11_1 h (fun M3 h => ?_)
  refine G.aload_n dX11_init_18 rfl rfl ?_
  refine G.iconst (-1 : Int32) dX11_init_19 ki_m1 ?_
  refine G.putI dX11_init_20 fkX11_17 nf11_2 ft11_2 h (fun M4 h => ?_)
  refine G.aload_n dX11_init_23 rfl rfl ?_
  refine G.new dX11_init_24 cok9 knX11_20 kiX9 kzX9 h (fun M5 h => ?_)
  refine G.dup dX11_init_27 rfl ?_
  refine G.callI [] [.ref (mK M4).length, .ref a0] dX11_init_28 lkX11_22 okX9_init (fun v hv => C_X9_init hv) (Nat.le_of_ble_eq_true rfl) rfl rfl (Nat.le_of_ble_eq_true rfl) h (fun M7 h => ?_)
  refine G.putRF dX11_init_31 cok11 (by decide) flX11_23 rfl rfl rfl fr11_3 h (fun M8 h => ?_)
  refine G.aload_n dX11_init_34 rfl rfl ?_
  refine G.new dX11_init_35 cok2 knX11_27 kiX2 kzX2 h (fun M9 h => ?_)
  refine G.dup dX11_init_38 rfl ?_
  refine G.aload_n dX11_init_39 rfl rfl ?_
  refine G.getR dX11_init_40 fkX11_23 fr11_3 h (fun v10 h => ?_)
  refine G.callI [.ref v10] [.ref (mK M8).length, .ref a0] dX11_init_43 lkX11_29 okX2_init (fun v hv => C_X2_init hv) (Nat.le_of_ble_eq_true rfl) rfl rfl (Nat.le_of_ble_eq_true rfl) h (fun M12 h => ?_)
  refine G.putRF dX11_init_46 cok11 (by decide) flX11_32 rfl rfl rfl fr11_4 h (fun M13 h => ?_)
  refine G.aload_n dX11_init_49 rfl rfl ?_
  refine G.new dX11_init_50 cok8 knX11_36 kiX8 kzX8 h (fun M14 h => ?_)
  refine G.dup dX11_init_53 rfl ?_
  refine G.aload_n dX11_init_54 rfl rfl ?_
  refine G.getR dX11_init_55 fkX11_23 fr11_3 h (fun v15 h => ?_)
  refine G.callI [.ref v15] [.ref (mK M13).length, .ref a0] dX11_init_58 lkX11_38 okX8_init (fun v hv => C_X8_init hv) (Nat.le_of_ble_eq_true rfl) rfl rfl (Nat.le_of_ble_eq_true rfl) h (fun M17 h => ?_)
  refine G.putRF dX11_init_61 cok11 (by decide) flX11_39 rfl rfl rfl fr11_5 h (fun M18 h => ?_)
  refine G.aload_n dX11_init_64 rfl rfl ?_
  refine G.new dX11_init_65 cok10 knX11_43 kiX10 kzX10 h (fun M19 h => ?_)
  refine G.dup dX11_init_68 rfl ?_
  refine G.callI [] [.ref (mK M18).length, .ref a0] dX11_init_69 lkX11_45 okX10_init (fun v hv => C_X10_init hv) (Nat.le_of_ble_eq_true rfl) rfl rfl (Nat.le_of_ble_eq_true rfl) h (fun M21 h => ?_)
  refine G.putR dX11_init_72 fkX11_46 nf11_6 fr11_6 h (fun M22 h => ?_)
  refine G.aload_n dX11_init_75 rfl rfl ?_
  refine G.new dX11_init_76 cok10 knX11_43 kiX10 kzX10 h (fun M23 h => ?_)
  refine G.dup dX11_init_79 rfl ?_
  refine G.callI [] [.ref (mK M22).length, .ref a0] dX11_init_80 lkX11_45 okX10_init (fun v hv => C_X10_init hv) (Nat.le_of_ble_eq_true rfl) rfl rfl (Nat.le_of_ble_eq_true rfl) h (fun M25 h => ?_)
  refine G.putR dX11_init_83 fkX11_50 nf11_7 fr11_7 h (fun M26 h => ?_)
  refine G.aload_n dX11_init_86 rfl rfl ?_
  refine G.new dX11_init_87 cok5 knX11_53 kiX5 kzX5 h (fun M27 h => ?_)
  refine G.dup dX11_init_90 rfl ?_
  refine G.callI [] [.ref (mK M26).length, .ref a0] dX11_init_91 lkX11_55 okX5_init (fun v hv => C_X5_init hv) (Nat.le_of_ble_eq_true rfl) rfl rfl (Nat.le_of_ble_eq_true rfl) h (fun M29 h => ?_)
  refine G.putRF dX11_init_94 cok11 (by decide) flX11_56 rfl rfl rfl fr11_8 h (fun M30 h => ?_)
  refine G.aload_n dX11_init_97 rfl rfl ?_
  refine G.new dX11_init_98 cok1 knX11_60 kiX1 kzX1 h (fun M31 h => ?_)
  refine G.dup dX11_init_101 rfl ?_
  refine G.callI [] [.ref (mK M30).length, .ref a0] dX11_init_102 lkX11_62 okX1_init (fun v hv => C_X1_init hv) (Nat.le_of_ble_eq_true rfl) rfl rfl (Nat.le_of_ble_eq_true rfl) h (fun M33 h => ?_)
  refine G.putRF dX11_init_105 cok11 (by decide) flX11_63 rfl rfl rfl fr11_9 h (fun M34 h => ?_)
  refine G.aload_n dX11_init_108 rfl rfl ?_
  refine G.iconst (0 : Int32) dX11_init_109 ki_0 ?_
  refine G.putZ dX11_init_110 fkX11_67 nf11_10 ft11_10 h (fun M35 h => ?_)
  refine G.aload_n dX11_init_113 rfl rfl ?_
  refine G.new dX11_init_114 cok1 knX11_60 kiX1 kzX1 h (fun M36 h => ?_)
  refine G.dup dX11_init_117 rfl ?_
  refine G.callI [] [.ref (mK M35).length, .ref a0] dX11_init_118 lkX11_62 okX1_init (fun v hv => C_X1_init hv) (Nat.le_of_ble_eq_true rfl) rfl rfl (Nat.le_of_ble_eq_true rfl) h (fun M38 h => ?_)
  refine G.putRF dX11_init_121 cok11 (by decide) flX11_71 rfl rfl rfl fr11_11 h (fun M39 h => ?_)
  refine G.aload_n dX11_init_124 rfl rfl ?_
  refine G.new dX11_init_125 cok7 knX11_74 kiX7 kzX7 h (fun M40 h => ?_)
  refine G.dup dX11_init_128 rfl ?_
  refine G.callI [] [.ref (mK M39).length, .ref a0] dX11_init_129 lkX11_76 okX7_init (fun v hv => C_X7_init hv) (Nat.le_of_ble_eq_true rfl) rfl rfl (Nat.le_of_ble_eq_true rfl) h (fun M42 h => ?_)
  refine G.putRF dX11_init_132 cok11 (by decide) flX11_77 rfl rfl rfl fr11_12 h (fun M43 h => ?_)
  refine G.aload_n dX11_init_135 rfl rfl ?_
  refine G.new dX11_init_136 cok0 knX11_81 kiX0 kzX0 h (fun M44 h => ?_)
  refine G.dup dX11_init_139 rfl ?_
  refine G.callI [] [.ref (mK M43).length, .ref a0] dX11_init_140 lkX11_83 okX0_init (fun v hv => C_X0_init hv) (Nat.le_of_ble_eq_true rfl) rfl rfl (Nat.le_of_ble_eq_true rfl) h (fun M46 h => ?_)
  refine G.putRF dX11_init_143 cok11 (by decide) flX11_84 rfl rfl rfl fr11_13 h (fun M47 h => ?_)
  refine G.aload_n dX11_init_146 rfl rfl ?_
  refine G.new dX11_init_147 cok6 knX11_88 kiX6 kzX6 h (fun M48 h => ?_)
  refine G.dup dX11_init_150 rfl ?_
  refine G.callI [] [.ref (mK M47).length, .ref a0] dX11_init_151 lkX11_90 okX6_init (fun v hv => C_X6_init hv) (Nat.le_of_ble_eq_true rfl) rfl rfl (Nat.le_of_ble_eq_true rfl) h (fun M50 h => ?_)
  refine G.putRF dX11_init_154 cok11 (by decide) flX11_91 rfl rfl rfl fr11_14 h (fun M51 h => ?_)
  exact G.vretW dX11_init_157 rfl h
-- OnlyUpward.putBytes(I)V
set_option maxRecDepth 100000 in
set_option maxHeartbeats 4000000 in
def F_X11_putBytes (n : Nat) (M : AM) (a0 : Nat) (a1 : Int32) : Option AM :=
  (iter (fun (s1 : Int32 × AM) => if s1.1 < 0 then some (.inr s1.2) else (gI 11 1 s1.2 a0).bind fun v3 => if (2000 : Int32) ≤ v3 then some (.inr s1.2) else (gR 11 0 s1.2 a0).bind fun v5 => (gI 11 1 s1.2 a0).bind fun v6 => (wrB s1.2 v5 v6 ((ush a1 s1.1)).toInt8.toInt32).bind fun M7 => (gI 11 1 M7 a0).bind fun v8 => (pI 11 1 M7 a0 (v8 + (1 : Int32))).bind fun M9 => some (.inl ((s1.1 + (-8 : Int32)), M9))) n ((24 : Int32), M)).bind fun (e1 : AM) => some e1
set_option maxRecDepth 100000 in
set_option maxHeartbeats 4000000 in
theorem C_X11_putBytes {n : Nat} {M : AM} {a0 : Nat} {a1 : Int32} {o : AM} (h : F_X11_putBytes n M a0 a1 = some o) : Cn yX11_putBytes cX11_putBytes 3 none 0 [.ref a0, .int a1] M none o := by
  unfold F_X11_putBytes at h
  refine Cn.of rfl (Nat.le_of_ble_eq_true rfl) ?_
  show G yX11_putBytes cX11_putBytes 3 none 0 0 [(0, .ref a0), (1, .int a1)] [] M none o
  refine G.bipush (24 : Int32) dX11_putBytes_0 kb_24 ?_
  refine G.istore_n (lv' := [(2, .int (24 : Int32)), (0, .ref a0), (1, .int a1)]) dX11_putBytes_2 rfl (Nat.le_of_ble_eq_true rfl) rfl ?_
  refine G.sub (lv' := [(0, .ref a0), (1, .int a1), (2, .int (24 : Int32))]) [1, 2, 0] rfl ?_
  refine loopE (fun (s1 : Int32 × AM) => G yX11_putBytes cX11_putBytes 3 none 0 3 [(0, .ref a0), (1, .int a1), (2, .int s1.1)] [] s1.2 none o) (fun (e1 : AM) => G yX11_putBytes cX11_putBytes 3 none 0 46 [] [] e1 none o) h ?_ ?_
  · intro e1 h
    show G yX11_putBytes cX11_putBytes 3 none 0 46 [] [] e1 none o
    exact G.vretW dX11_putBytes_46 rfl h
  · intro s1 x1 h K1
    show G yX11_putBytes cX11_putBytes 3 none 0 3 [(0, .ref a0), (1, .int a1), (2, .int s1.1)] [] s1.2 none o
    refine G.iload_n dX11_putBytes_3 rfl rfl ?_
    refine G.if_lt 46 dX11_putBytes_4 (by decide) h (fun c2 h => ?_) (fun c2 h => ?_)
    · refine G.sub (lv' := []) [] rfl ?_
      have h := leafR' h K1
      exact h
    · refine G.aload_n dX11_putBytes_7 rfl rfl ?_
      refine G.getI dX11_putBytes_8 fkX11_13 fr11_1 h (fun v3 h => ?_)
      refine G.sipush (2000 : Int32) dX11_putBytes_11 ks_2000 ?_
      refine G.icmp_ge 46 dX11_putBytes_14 (by decide) h (fun c4 h => ?_) (fun c4 h => ?_)
      · refine G.sub (lv' := []) [] rfl ?_
        have h := leafR' h K1
        exact h
      · refine G.aload_n dX11_putBytes_17 rfl rfl ?_
        refine G.getR dX11_putBytes_18 fkX11_9 fr11_0 h (fun v5 h => ?_)
        refine G.aload_n dX11_putBytes_21 rfl rfl ?_
        refine G.getI dX11_putBytes_22 fkX11_13 fr11_1 h (fun v6 h => ?_)
        refine G.iload_n dX11_putBytes_25 rfl rfl ?_
        refine G.iload_n dX11_putBytes_26 rfl rfl ?_
        refine G.iushr dX11_putBytes_27 ?_
        refine G.i2b dX11_putBytes_28 ?_
        refine G.bast dX11_putBytes_29 h (fun M7 h => ?_)
        refine G.aload_n dX11_putBytes_30 rfl rfl ?_
        refine G.dup dX11_putBytes_31 rfl ?_
        refine G.getI dX11_putBytes_32 fkX11_13 fr11_1 h (fun v8 h => ?_)
        refine G.iconst (1 : Int32) dX11_putBytes_35 ki_1 ?_
        refine G.iadd dX11_putBytes_36 ?_
        refine G.putI dX11_putBytes_37 fkX11_13 nf11_1 ft11_1 h (fun M9 h => ?_)
        refine G.iinc s1.1 (w := (s1.1 + (-8 : Int32))) (lv' := [(2, .int (s1.1 + (-8 : Int32))), (0, .ref a0), (1, .int a1)]) dX11_putBytes_40 rfl rfl (Nat.le_of_ble_eq_true rfl) rfl ?_
        refine G.goto 3 dX11_putBytes_43 (by decide) ?_
        refine G.sub (lv' := [(0, .ref a0), (1, .int a1), (2, .int (s1.1 + (-8 : Int32)))]) [1, 2, 0] rfl ?_
        have h := leafL' h K1
        exact h
-- OnlyUpward.feed(IIIII)I
set_option maxRecDepth 100000 in
set_option maxHeartbeats 4000000 in
def F_X11_feed (n : Nat) (M : AM) (a0 : Nat) (a1 : Int32) (a2 : Int32) (a3 : Int32) (a4 : Int32) (a5 : Int32) : Option (Int32 × AM) :=
  (gI 11 1 M a0).bind fun v1 => if (v1 + (20 : Int32)) ≤ (2000 : Int32) then (rcv 11 M a0 (F_X11_putBytes n M a0 a1)).bind fun M4 => (rcv 11 M4 a0 (F_X11_putBytes n M4 a0 a2)).bind fun M6 => (rcv 11 M6 a0 (F_X11_putBytes n M6 a0 a3)).bind fun M8 => (rcv 11 M8 a0 (F_X11_putBytes n M8 a0 a4)).bind fun M10 => (rcv 11 M10 a0 (F_X11_putBytes n M10 a0 a5)).bind fun M12 => (gI 11 1 M12 a0).bind fun v13 => some (v13, M12) else some ((-1 : Int32), M)
set_option maxRecDepth 100000 in
set_option maxHeartbeats 4000000 in
theorem C_X11_feed {n : Nat} {M : AM} {a0 : Nat} {a1 : Int32} {a2 : Int32} {a3 : Int32} {a4 : Int32} {a5 : Int32} {o : (Int32 × AM)} (h : F_X11_feed n M a0 a1 a2 a3 a4 a5 = some o) : Cn yX11_feed cX11_feed 6 (some .int) 1 [.ref a0, .int a1, .int a2, .int a3, .int a4, .int a5] M (some (.int o.1)) o.2 := by
  unfold F_X11_feed at h
  refine Cn.of rfl (Nat.le_of_ble_eq_true rfl) ?_
  show G yX11_feed cX11_feed 6 (some .int) 1 0 [(0, .ref a0), (1, .int a1), (2, .int a2), (3, .int a3), (4, .int a4), (5, .int a5)] [] M (some (.int o.1)) o.2
  refine G.aload_n dX11_feed_0 rfl rfl ?_
  refine G.getI dX11_feed_1 fkX11_13 fr11_1 h (fun v1 h => ?_)
  refine G.bipush (20 : Int32) dX11_feed_4 kb_20 ?_
  refine G.iadd dX11_feed_6 ?_
  refine G.sipush (2000 : Int32) dX11_feed_7 ks_2000 ?_
  refine G.icmp_le 15 dX11_feed_10 (by decide) h (fun c2 h => ?_) (fun c2 h => ?_)
  · refine G.aload_n dX11_feed_15 rfl rfl ?_
    refine G.iload_n dX11_feed_16 rfl rfl ?_
    refine G.callVv (ci := 11) [.int a1] [] dX11_feed_17 lkX11_95 okX11_putBytes rfl (fun v hv => C_X11_putBytes hv) (Nat.le_of_ble_eq_true rfl) rfl rfl (Nat.le_of_ble_eq_true rfl) h (fun M4 h => ?_)
    refine G.aload_n dX11_feed_20 rfl rfl ?_
    refine G.iload_n dX11_feed_21 rfl rfl ?_
    refine G.callVv (ci := 11) [.int a2] [] dX11_feed_22 lkX11_95 okX11_putBytes rfl (fun v hv => C_X11_putBytes hv) (Nat.le_of_ble_eq_true rfl) rfl rfl (Nat.le_of_ble_eq_true rfl) h (fun M6 h => ?_)
    refine G.aload_n dX11_feed_25 rfl rfl ?_
    refine G.iload_n dX11_feed_26 rfl rfl ?_
    refine G.callVv (ci := 11) [.int a3] [] dX11_feed_27 lkX11_95 okX11_putBytes rfl (fun v hv => C_X11_putBytes hv) (Nat.le_of_ble_eq_true rfl) rfl rfl (Nat.le_of_ble_eq_true rfl) h (fun M8 h => ?_)
    refine G.aload_n dX11_feed_30 rfl rfl ?_
    refine G.iload dX11_feed_31 rfl ?_
    refine G.callVv (ci := 11) [.int a4] [] dX11_feed_33 lkX11_95 okX11_putBytes rfl (fun v hv => C_X11_putBytes hv) (Nat.le_of_ble_eq_true rfl) rfl rfl (Nat.le_of_ble_eq_true rfl) h (fun M10 h => ?_)
    refine G.aload_n dX11_feed_36 rfl rfl ?_
    refine G.iload dX11_feed_37 rfl ?_
    refine G.callVv (ci := 11) [.int a5] [] dX11_feed_39 lkX11_95 okX11_putBytes rfl (fun v hv => C_X11_putBytes hv) (Nat.le_of_ble_eq_true rfl) rfl rfl (Nat.le_of_ble_eq_true rfl) h (fun M12 h => ?_)
    refine G.aload_n dX11_feed_42 rfl rfl ?_
    refine G.getI dX11_feed_43 fkX11_13 fr11_1 h (fun v13 h => ?_)
    exact G.iretW dX11_feed_46 rfl (rfl) h
  · refine G.iconst (-1 : Int32) dX11_feed_13 ki_m1 ?_
    exact G.iretW dX11_feed_14 rfl (rfl) h
-- OnlyUpward.back(I)I
set_option maxRecDepth 100000 in
set_option maxHeartbeats 4000000 in
def F_X11_back (n : Nat) (M : AM) (a0 : Nat) (a1 : Int32) : Option (Int32 × AM) :=
  if a1 < 0 then some ((-1 : Int32), M) else (gI 11 1 M a0).bind fun v2 => if a1 ≤ v2 then (gI 11 1 M a0).bind fun v4 => (pI 11 1 M a0 (v4 - a1)).bind fun M5 => (gI 11 1 M5 a0).bind fun v6 => some (v6, M5) else some ((-1 : Int32), M)
set_option maxRecDepth 100000 in
set_option maxHeartbeats 4000000 in
theorem C_X11_back {n : Nat} {M : AM} {a0 : Nat} {a1 : Int32} {o : (Int32 × AM)} (h : F_X11_back n M a0 a1 = some o) : Cn yX11_back cX11_back 2 (some .int) 0 [.ref a0, .int a1] M (some (.int o.1)) o.2 := by
  unfold F_X11_back at h
  refine Cn.of rfl (Nat.le_of_ble_eq_true rfl) ?_
  show G yX11_back cX11_back 2 (some .int) 0 0 [(0, .ref a0), (1, .int a1)] [] M (some (.int o.1)) o.2
  refine G.iload_n dX11_back_0 rfl rfl ?_
  refine G.if_lt 12 dX11_back_1 (by decide) h (fun c1 h => ?_) (fun c1 h => ?_)
  · refine G.iconst (-1 : Int32) dX11_back_12 ki_m1 ?_
    exact G.iretW dX11_back_13 rfl (rfl) h
  · refine G.iload_n dX11_back_4 rfl rfl ?_
    refine G.aload_n dX11_back_5 rfl rfl ?_
    refine G.getI dX11_back_6 fkX11_13 fr11_1 h (fun v2 h => ?_)
    refine G.icmp_le 14 dX11_back_9 (by decide) h (fun c3 h => ?_) (fun c3 h => ?_)
    · refine G.aload_n dX11_back_14 rfl rfl ?_
      refine G.dup dX11_back_15 rfl ?_
      refine G.getI dX11_back_16 fkX11_13 fr11_1 h (fun v4 h => ?_)
      refine G.iload_n dX11_back_19 rfl rfl ?_
      refine G.isub dX11_back_20 ?_
      refine G.putI dX11_back_21 fkX11_13 nf11_1 ft11_1 h (fun M5 h => ?_)
      refine G.aload_n dX11_back_24 rfl rfl ?_
      refine G.getI dX11_back_25 fkX11_13 fr11_1 h (fun v6 h => ?_)
      exact G.iretW dX11_back_28 rfl (rfl) h
    · refine G.iconst (-1 : Int32) dX11_back_12 ki_m1 ?_
      exact G.iretW dX11_back_13 rfl (rfl) h
-- OnlyUpward$Tokens.endOfRun([BIIII)I
set_option maxRecDepth 100000 in
set_option maxHeartbeats 4000000 in
def F_X9_endOfRun (n : Nat) (M : AM) (a0 : Nat) (a1 : Int32) (a2 : Int32) (a3 : Int32) (a4 : Int32) : Option Int32 :=
  (iter (fun (s1 : Int32) => if a1 ≤ s1 then some (.inr s1) else (rdB M a0 s1).bind fun v3 => if v3 < a3 then some (.inr s1) else (rdB M a0 s1).bind fun v5 => if a4 < v5 then some (.inr s1) else some (.inl (s1 + (1 : Int32)))) n a2).bind fun (e1 : Int32) => some e1
set_option maxRecDepth 100000 in
set_option maxHeartbeats 4000000 in
theorem C_X9_endOfRun {n : Nat} {M : AM} {a0 : Nat} {a1 : Int32} {a2 : Int32} {a3 : Int32} {a4 : Int32} {o : Int32} (h : F_X9_endOfRun n M a0 a1 a2 a3 a4 = some o) : Cn yX9_endOfRun cX9_endOfRun 6 (some .int) 0 [.ref a0, .int a1, .int a2, .int a3, .int a4] M (some (.int o)) M := by
  unfold F_X9_endOfRun at h
  refine Cn.of rfl (Nat.le_of_ble_eq_true rfl) ?_
  show G yX9_endOfRun cX9_endOfRun 6 (some .int) 0 0 [(0, .ref a0), (1, .int a1), (2, .int a2), (3, .int a3), (4, .int a4)] [] M (some (.int o)) M
  refine G.iload_n dX9_endOfRun_0 rfl rfl ?_
  refine G.istore (lv' := [(5, .int a2), (0, .ref a0), (1, .int a1), (2, .int a2), (3, .int a3), (4, .int a4)]) dX9_endOfRun_1 (Nat.le_of_ble_eq_true rfl) rfl ?_
  refine G.sub (lv' := [(0, .ref a0), (1, .int a1), (3, .int a3), (4, .int a4), (5, .int a2)]) [1, 2, 4, 5, 0] rfl ?_
  refine loopE (fun (s1 : Int32) => G yX9_endOfRun cX9_endOfRun 6 (some .int) 0 3 [(0, .ref a0), (1, .int a1), (3, .int a3), (4, .int a4), (5, .int s1)] [] M (some (.int o)) M) (fun (e1 : Int32) => G yX9_endOfRun cX9_endOfRun 6 (some .int) 0 32 [(5, .int e1)] [] M (some (.int o)) M) h ?_ ?_
  · intro e1 h
    show G yX9_endOfRun cX9_endOfRun 6 (some .int) 0 32 [(5, .int e1)] [] M (some (.int o)) M
    refine G.iload dX9_endOfRun_32 rfl ?_
    exact G.iret dX9_endOfRun_34 rfl (rfl) h
  · intro s1 x1 h K1
    show G yX9_endOfRun cX9_endOfRun 6 (some .int) 0 3 [(0, .ref a0), (1, .int a1), (3, .int a3), (4, .int a4), (5, .int s1)] [] M (some (.int o)) M
    refine G.iload dX9_endOfRun_3 rfl ?_
    refine G.iload_n dX9_endOfRun_5 rfl rfl ?_
    refine G.icmp_ge 32 dX9_endOfRun_6 (by decide) h (fun c2 h => ?_) (fun c2 h => ?_)
    · refine G.sub (lv' := [(5, .int s1)]) [4] rfl ?_
      have h := leafR' h K1
      exact h
    · refine G.aload_n dX9_endOfRun_9 rfl rfl ?_
      refine G.iload dX9_endOfRun_10 rfl ?_
      refine G.bald dX9_endOfRun_12 h (fun v3 h => ?_)
      refine G.iload_n dX9_endOfRun_13 rfl rfl ?_
      refine G.icmp_lt 32 dX9_endOfRun_14 (by decide) h (fun c4 h => ?_) (fun c4 h => ?_)
      · refine G.sub (lv' := [(5, .int s1)]) [4] rfl ?_
        have h := leafR' h K1
        exact h
      · refine G.aload_n dX9_endOfRun_17 rfl rfl ?_
        refine G.iload dX9_endOfRun_18 rfl ?_
        refine G.bald dX9_endOfRun_20 h (fun v5 h => ?_)
        refine G.iload dX9_endOfRun_21 rfl ?_
        refine G.icmp_gt 32 dX9_endOfRun_23 (by decide) h (fun c6 h => ?_) (fun c6 h => ?_)
        · refine G.sub (lv' := [(5, .int s1)]) [4] rfl ?_
          have h := leafR' h K1
          exact h
        · refine G.iinc s1 (w := (s1 + (1 : Int32))) (lv' := [(5, .int (s1 + (1 : Int32))), (0, .ref a0), (1, .int a1), (3, .int a3), (4, .int a4)]) dX9_endOfRun_26 rfl rfl (Nat.le_of_ble_eq_true rfl) rfl ?_
          refine G.goto 3 dX9_endOfRun_29 (by decide) ?_
          refine G.sub (lv' := [(0, .ref a0), (1, .int a1), (3, .int a3), (4, .int a4), (5, .int (s1 + (1 : Int32)))]) [1, 2, 3, 4, 0] rfl ?_
          have h := leafL' h K1
          exact h
-- OnlyUpward$Tokens.put(IIJ)V
set_option maxRecDepth 100000 in
set_option maxHeartbeats 4000000 in
def F_X9_put (n : Nat) (M : AM) (a0 : Nat) (a1 : Int32) (a2 : Int32) (a3 : Int64) : Option AM :=
  (gI 9 4 M a0).bind fun v1 => (gR 9 0 M a0).bind fun v2 => (aln M v2).bind fun v3 => if v3 ≤ v1 then some M else (gR 9 0 M a0).bind fun v5 => (gI 9 4 M a0).bind fun v6 => (wrI M v5 v6 a1).bind fun M7 => (gR 9 1 M7 a0).bind fun v8 => (gI 9 4 M7 a0).bind fun v9 => (wrI M7 v8 v9 a2).bind fun M10 => (gR 9 2 M10 a0).bind fun v11 => (gI 9 4 M10 a0).bind fun v12 => (wrL M10 v11 v12 a3).bind fun M13 => (gI 9 4 M13 a0).bind fun v14 => (pI 9 4 M13 a0 (v14 + (1 : Int32))).bind fun M15 => some M15
set_option maxRecDepth 100000 in
set_option maxHeartbeats 4000000 in
theorem C_X9_put {n : Nat} {M : AM} {a0 : Nat} {a1 : Int32} {a2 : Int32} {a3 : Int64} {o : AM} (h : F_X9_put n M a0 a1 a2 a3 = some o) : Cn yX9_put cX9_put 5 none 0 [.ref a0, .int a1, .int a2, .long a3] M none o := by
  unfold F_X9_put at h
  refine Cn.of rfl (Nat.le_of_ble_eq_true rfl) ?_
  show G yX9_put cX9_put 5 none 0 0 [(0, .ref a0), (1, .int a1), (2, .int a2), (3, .long a3)] [] M none o
  refine G.aload_n dX9_put_0 rfl rfl ?_
  refine G.getI dX9_put_1 fkX9_25 fr9_4 h (fun v1 h => ?_)
  refine G.aload_n dX9_put_4 rfl rfl ?_
  refine G.getR dX9_put_5 fkX9_9 fr9_0 h (fun v2 h => ?_)
  refine G.alen dX9_put_8 h (fun v3 h => ?_)
  refine G.icmp_ge 52 dX9_put_9 (by decide) h (fun c4 h => ?_) (fun c4 h => ?_)
  · exact G.vretW dX9_put_52 rfl h
  · refine G.aload_n dX9_put_12 rfl rfl ?_
    refine G.getR dX9_put_13 fkX9_9 fr9_0 h (fun v5 h => ?_)
    refine G.aload_n dX9_put_16 rfl rfl ?_
    refine G.getI dX9_put_17 fkX9_25 fr9_4 h (fun v6 h => ?_)
    refine G.iload_n dX9_put_20 rfl rfl ?_
    refine G.iast dX9_put_21 h (fun M7 h => ?_)
    refine G.aload_n dX9_put_22 rfl rfl ?_
    refine G.getR dX9_put_23 fkX9_15 fr9_1 h (fun v8 h => ?_)
    refine G.aload_n dX9_put_26 rfl rfl ?_
    refine G.getI dX9_put_27 fkX9_25 fr9_4 h (fun v9 h => ?_)
    refine G.iload_n dX9_put_30 rfl rfl ?_
    refine G.iast dX9_put_31 h (fun M10 h => ?_)
    refine G.aload_n dX9_put_32 rfl rfl ?_
    refine G.getR dX9_put_33 fkX9_18 fr9_2 h (fun v11 h => ?_)
    refine G.aload_n dX9_put_36 rfl rfl ?_
    refine G.getI dX9_put_37 fkX9_25 fr9_4 h (fun v12 h => ?_)
    refine G.lload_n dX9_put_40 rfl rfl ?_
    refine G.last dX9_put_41 h (fun M13 h => ?_)
    refine G.aload_n dX9_put_42 rfl rfl ?_
    refine G.dup dX9_put_43 rfl ?_
    refine G.getI dX9_put_44 fkX9_25 fr9_4 h (fun v14 h => ?_)
    refine G.iconst (1 : Int32) dX9_put_47 ki_1 ?_
    refine G.iadd dX9_put_48 ?_
    refine G.putI dX9_put_49 fkX9_25 nf9_4 ft9_4 h (fun M15 h => ?_)
    exact G.vretW dX9_put_52 rfl h
-- OnlyUpward$Tokens.scanWord([BII)I
set_option maxRecDepth 100000 in
set_option maxHeartbeats 4000000 in
def F_X9_scanWord (n : Nat) (M : AM) (a0 : Nat) (a1 : Nat) (a2 : Int32) (a3 : Int32) : Option (Int32 × AM) :=
  (F_X9_endOfRun n M a1 a2 a3 (97 : Int32) (122 : Int32)).bind fun v1 => if (v1 - a3) ≤ (8 : Int32) then (iter (fun (s3 : Int64 × Int32) => if v1 ≤ s3.2 then some (.inr s3.1) else (rdB M a1 s3.2).bind fun v5 => (F_X9_withLetter n M s3.1 v5).bind fun v6 => some (.inl (v6, (s3.2 + (1 : Int32))))) n ((0 : Int64), a3)).bind fun (e3 : Int64) => (iter (fun (s7 : Int32 × Int32) => if (20 : Int32) ≤ s7.2 then some (.inr s7.1) else (gR 9 3 M a0).bind fun v9 => (rdL M v9 s7.2).bind fun v10 => jn (fun (u11 : Int32) => some (.inl (u11, (s7.2 + (1 : Int32))))) fun j12 => if (lg_cmp v10 e3) = 0 then j12 s7.2 else j12 s7.1) n ((20 : Int32), (0 : Int32))).bind fun (e7 : Int32) => (rcv 9 M a0 (F_X9_put n M a0 e7 a3 e3)).bind fun M15 => some (v1, M15) else (rcv 9 M a0 (F_X9_put n M a0 (34 : Int32) a3 (0 : Int64))).bind fun M17 => some (v1, M17)
set_option maxRecDepth 100000 in
set_option maxHeartbeats 4000000 in
theorem C_X9_scanWord {n : Nat} {M : AM} {a0 : Nat} {a1 : Nat} {a2 : Int32} {a3 : Int32} {o : (Int32 × AM)} (h : F_X9_scanWord n M a0 a1 a2 a3 = some o) : Cn yX9_scanWord cX9_scanWord 9 (some .int) 1 [.ref a0, .ref a1, .int a2, .int a3] M (some (.int o.1)) o.2 := by
  unfold F_X9_scanWord at h
  refine Cn.of rfl (Nat.le_of_ble_eq_true rfl) ?_
  show G yX9_scanWord cX9_scanWord 9 (some .int) 1 0 [(0, .ref a0), (1, .ref a1), (2, .int a2), (3, .int a3)] [] M (some (.int o.1)) o.2
  refine G.aload_n dX9_scanWord_0 rfl rfl ?_
  refine G.iload_n dX9_scanWord_1 rfl rfl ?_
  refine G.iload_n dX9_scanWord_2 rfl rfl ?_
  refine G.bipush (97 : Int32) dX9_scanWord_3 kb_97 ?_
  refine G.bipush (122 : Int32) dX9_scanWord_5 kb_122 ?_
  refine G.callSi [.ref a1, .int a2, .int a3, .int (97 : Int32), .int (122 : Int32)] [] dX9_scanWord_7 lkX9_78 okX9_endOfRun (fun v hv => C_X9_endOfRun hv) (Nat.le_of_ble_eq_true rfl) rfl rfl (Nat.le_of_ble_eq_true rfl) h (fun v1 h => ?_)
  refine G.istore (lv' := [(4, .int v1), (0, .ref a0), (1, .ref a1), (2, .int a2), (3, .int a3)]) dX9_scanWord_10 (Nat.le_of_ble_eq_true rfl) rfl ?_
  refine G.iload dX9_scanWord_12 rfl ?_
  refine G.iload_n dX9_scanWord_14 rfl rfl ?_
  refine G.isub dX9_scanWord_15 ?_
  refine G.bipush (8 : Int32) dX9_scanWord_16 kb_8 ?_
  refine G.icmp_le 32 dX9_scanWord_18 (by decide) h (fun c2 h => ?_) (fun c2 h => ?_)
  · refine G.lconst (0 : Int64) dX9_scanWord_32 rfl ?_
    refine G.lstore (lv' := [(5, .long (0 : Int64)), (4, .int v1), (0, .ref a0), (1, .ref a1), (2, .int a2), (3, .int a3)]) dX9_scanWord_33 (Nat.le_of_ble_eq_true rfl) rfl ?_
    refine G.iload_n dX9_scanWord_35 rfl rfl ?_
    refine G.istore (lv' := [(7, .int a3), (5, .long (0 : Int64)), (4, .int v1), (0, .ref a0), (1, .ref a1), (2, .int a2), (3, .int a3)]) dX9_scanWord_36 (Nat.le_of_ble_eq_true rfl) rfl ?_
    refine G.sub (lv' := [(0, .ref a0), (1, .ref a1), (3, .int a3), (4, .int v1), (5, .long (0 : Int64)), (7, .int a3)]) [3, 4, 6, 2, 1, 0] rfl ?_
    refine loopE (fun (s3 : Int64 × Int32) => G yX9_scanWord cX9_scanWord 9 (some .int) 1 38 [(0, .ref a0), (1, .ref a1), (3, .int a3), (4, .int v1), (5, .long s3.1), (7, .int s3.2)] [] M (some (.int o.1)) o.2) (fun (e3 : Int64) => G yX9_scanWord cX9_scanWord 9 (some .int) 1 62 [(0, .ref a0), (3, .int a3), (4, .int v1), (5, .long e3)] [] M (some (.int o.1)) o.2) h ?_ ?_
    · intro e3 h
      show G yX9_scanWord cX9_scanWord 9 (some .int) 1 62 [(0, .ref a0), (3, .int a3), (4, .int v1), (5, .long e3)] [] M (some (.int o.1)) o.2
      refine G.bipush (20 : Int32) dX9_scanWord_62 kb_20 ?_
      refine G.istore (lv' := [(7, .int (20 : Int32)), (0, .ref a0), (3, .int a3), (4, .int v1), (5, .long e3)]) dX9_scanWord_64 (Nat.le_of_ble_eq_true rfl) rfl ?_
      refine G.iconst (0 : Int32) dX9_scanWord_66 ki_0 ?_
      refine G.istore (lv' := [(8, .int (0 : Int32)), (7, .int (20 : Int32)), (0, .ref a0), (3, .int a3), (4, .int v1), (5, .long e3)]) dX9_scanWord_67 (Nat.le_of_ble_eq_true rfl) rfl ?_
      refine G.sub (lv' := [(0, .ref a0), (3, .int a3), (4, .int v1), (5, .long e3), (7, .int (20 : Int32)), (8, .int (0 : Int32))]) [2, 3, 4, 5, 1, 0] rfl ?_
      refine loopE (fun (s7 : Int32 × Int32) => G yX9_scanWord cX9_scanWord 9 (some .int) 1 69 [(0, .ref a0), (3, .int a3), (4, .int v1), (5, .long e3), (7, .int s7.1), (8, .int s7.2)] [] M (some (.int o.1)) o.2) (fun (e7 : Int32) => G yX9_scanWord cX9_scanWord 9 (some .int) 1 99 [(0, .ref a0), (3, .int a3), (4, .int v1), (5, .long e3), (7, .int e7)] [] M (some (.int o.1)) o.2) h ?_ ?_
      · intro e7 h
        show G yX9_scanWord cX9_scanWord 9 (some .int) 1 99 [(0, .ref a0), (3, .int a3), (4, .int v1), (5, .long e3), (7, .int e7)] [] M (some (.int o.1)) o.2
        refine G.aload_n dX9_scanWord_99 rfl rfl ?_
        refine G.iload dX9_scanWord_100 rfl ?_
        refine G.iload_n dX9_scanWord_102 rfl rfl ?_
        refine G.lload dX9_scanWord_103 rfl ?_
        refine G.callVv (ci := 9) [.int e7, .int a3, .long e3] [] dX9_scanWord_105 lkX9_57 okX9_put rfl (fun v hv => C_X9_put hv) (Nat.le_of_ble_eq_true rfl) rfl rfl (Nat.le_of_ble_eq_true rfl) h (fun M15 h => ?_)
        refine G.iload dX9_scanWord_108 rfl ?_
        exact G.iretW dX9_scanWord_110 rfl (rfl) h
      · intro s7 x7 h K7
        show G yX9_scanWord cX9_scanWord 9 (some .int) 1 69 [(0, .ref a0), (3, .int a3), (4, .int v1), (5, .long e3), (7, .int s7.1), (8, .int s7.2)] [] M (some (.int o.1)) o.2
        refine G.iload dX9_scanWord_69 rfl ?_
        refine G.bipush (20 : Int32) dX9_scanWord_71 kb_20 ?_
        refine G.icmp_ge 99 dX9_scanWord_73 (by decide) h (fun c8 h => ?_) (fun c8 h => ?_)
        · refine G.sub (lv' := [(0, .ref a0), (3, .int a3), (4, .int v1), (5, .long e3), (7, .int s7.1)]) [0, 1, 2, 3, 4] rfl ?_
          have h := leafR' h K7
          exact h
        · refine G.aload_n dX9_scanWord_76 rfl rfl ?_
          refine G.getR dX9_scanWord_77 fkX9_22 fr9_3 h (fun v9 h => ?_)
          refine G.iload dX9_scanWord_80 rfl ?_
          refine G.lald dX9_scanWord_82 h (fun v10 h => ?_)
          refine G.lload dX9_scanWord_83 rfl ?_
          refine G.lcmp dX9_scanWord_85 ?_
          refine jn_elim (fun j12 => ∀ (u11 : Int32), j12 u11 = some x7 → G yX9_scanWord cX9_scanWord 9 (some .int) 1 93 [(0, .ref a0), (3, .int a3), (4, .int v1), (5, .long e3), (7, .int u11), (8, .int s7.2)] [] M (some (.int o.1)) o.2) h ?_ ?_
          · intro u11 h
            refine G.iinc s7.2 (w := (s7.2 + (1 : Int32))) (lv' := [(8, .int (s7.2 + (1 : Int32))), (0, .ref a0), (3, .int a3), (4, .int v1), (5, .long e3), (7, .int u11)]) dX9_scanWord_93 rfl rfl (Nat.le_of_ble_eq_true rfl) rfl ?_
            refine G.goto 69 dX9_scanWord_96 (by decide) ?_
            refine G.sub (lv' := [(0, .ref a0), (3, .int a3), (4, .int v1), (5, .long e3), (7, .int u11), (8, .int (s7.2 + (1 : Int32)))]) [1, 2, 3, 4, 5, 0] rfl ?_
            have h := leafL' h K7
            exact h
          · intro j12 Jj12 h
            refine G.if_ne 93 dX9_scanWord_86 (by decide) h (fun c13 h => ?_) (fun c13 h => ?_)
            · refine G.iload dX9_scanWord_89 rfl ?_
              refine G.istore (lv' := [(7, .int s7.2), (0, .ref a0), (3, .int a3), (4, .int v1), (5, .long e3), (8, .int s7.2)]) dX9_scanWord_91 (Nat.le_of_ble_eq_true rfl) rfl ?_
              refine G.sub (lv' := [(0, .ref a0), (3, .int a3), (4, .int v1), (5, .long e3), (7, .int s7.2), (8, .int s7.2)]) [1, 2, 3, 4, 0, 5] rfl ?_
              exact Jj12 _ h
            · refine G.sub (lv' := [(0, .ref a0), (3, .int a3), (4, .int v1), (5, .long e3), (7, .int s7.1), (8, .int s7.2)]) [0, 1, 2, 3, 4, 5] rfl ?_
              exact Jj12 _ h
    · intro s3 x3 h K3
      show G yX9_scanWord cX9_scanWord 9 (some .int) 1 38 [(0, .ref a0), (1, .ref a1), (3, .int a3), (4, .int v1), (5, .long s3.1), (7, .int s3.2)] [] M (some (.int o.1)) o.2
      refine G.iload dX9_scanWord_38 rfl ?_
      refine G.iload dX9_scanWord_40 rfl ?_
      refine G.icmp_ge 62 dX9_scanWord_42 (by decide) h (fun c4 h => ?_) (fun c4 h => ?_)
      · refine G.sub (lv' := [(0, .ref a0), (3, .int a3), (4, .int v1), (5, .long s3.1)]) [0, 2, 3, 4] rfl ?_
        have h := leafR' h K3
        exact h
      · refine G.lload dX9_scanWord_45 rfl ?_
        refine G.aload_n dX9_scanWord_47 rfl rfl ?_
        refine G.iload dX9_scanWord_48 rfl ?_
        refine G.bald dX9_scanWord_50 h (fun v5 h => ?_)
        refine G.callSl [.long s3.1, .int v5] [] dX9_scanWord_51 lkX9_41 okX9_withLetter (fun v hv => C_X9_withLetter hv) (Nat.le_of_ble_eq_true rfl) rfl rfl (Nat.le_of_ble_eq_true rfl) h (fun v6 h => ?_)
        refine G.lstore (lv' := [(5, .long v6), (0, .ref a0), (1, .ref a1), (3, .int a3), (4, .int v1), (7, .int s3.2)]) dX9_scanWord_54 (Nat.le_of_ble_eq_true rfl) rfl ?_
        refine G.iinc s3.2 (w := (s3.2 + (1 : Int32))) (lv' := [(7, .int (s3.2 + (1 : Int32))), (5, .long v6), (0, .ref a0), (1, .ref a1), (3, .int a3), (4, .int v1)]) dX9_scanWord_56 rfl rfl (Nat.le_of_ble_eq_true rfl) rfl ?_
        refine G.goto 38 dX9_scanWord_59 (by decide) ?_
        refine G.sub (lv' := [(0, .ref a0), (1, .ref a1), (3, .int a3), (4, .int v1), (5, .long v6), (7, .int (s3.2 + (1 : Int32)))]) [2, 3, 4, 5, 1, 0] rfl ?_
        have h := leafL' h K3
        exact h
  · refine G.aload_n dX9_scanWord_21 rfl rfl ?_
    refine G.bipush (34 : Int32) dX9_scanWord_22 kb_34 ?_
    refine G.iload_n dX9_scanWord_24 rfl rfl ?_
    refine G.lconst (0 : Int64) dX9_scanWord_25 rfl ?_
    refine G.callVv (ci := 9) [.int (34 : Int32), .int a3, .long (0 : Int64)] [] dX9_scanWord_26 lkX9_57 okX9_put rfl (fun v hv => C_X9_put hv) (Nat.le_of_ble_eq_true rfl) rfl rfl (Nat.le_of_ble_eq_true rfl) h (fun M17 h => ?_)
    refine G.iload dX9_scanWord_29 rfl ?_
    exact G.iretW dX9_scanWord_31 rfl (rfl) h
-- OnlyUpward$Tokens.scanInt([BII)I
set_option maxRecDepth 100000 in
set_option maxHeartbeats 4000000 in
def F_X9_scanInt (n : Nat) (M : AM) (a0 : Nat) (a1 : Nat) (a2 : Int32) (a3 : Int32) : Option (Int32 × AM) :=
  (F_X9_endOfRun n M a1 a2 a3 (48 : Int32) (57 : Int32)).bind fun v1 => if (v1 - a3) ≤ (4 : Int32) then (iter (fun (s3 : Int32 × Int32) => if v1 ≤ s3.2 then some (.inr s3.1) else (rdB M a1 s3.2).bind fun v5 => lets ((s3.1 * (10 : Int32)) + (v5 - (48 : Int32))) fun (w6 : Int32) => some (.inl (w6, (s3.2 + (1 : Int32))))) n ((0 : Int32), a3)).bind fun (e3 : Int32) => (rcv 9 M a0 (F_X9_put n M a0 (21 : Int32) a3 (e3).toInt64)).bind fun M8 => some (v1, M8) else (rcv 9 M a0 (F_X9_put n M a0 (34 : Int32) a3 (0 : Int64))).bind fun M10 => some (v1, M10)
set_option maxRecDepth 100000 in
set_option maxHeartbeats 4000000 in
theorem C_X9_scanInt {n : Nat} {M : AM} {a0 : Nat} {a1 : Nat} {a2 : Int32} {a3 : Int32} {o : (Int32 × AM)} (h : F_X9_scanInt n M a0 a1 a2 a3 = some o) : Cn yX9_scanInt cX9_scanInt 7 (some .int) 1 [.ref a0, .ref a1, .int a2, .int a3] M (some (.int o.1)) o.2 := by
  unfold F_X9_scanInt at h
  refine Cn.of rfl (Nat.le_of_ble_eq_true rfl) ?_
  show G yX9_scanInt cX9_scanInt 7 (some .int) 1 0 [(0, .ref a0), (1, .ref a1), (2, .int a2), (3, .int a3)] [] M (some (.int o.1)) o.2
  refine G.aload_n dX9_scanInt_0 rfl rfl ?_
  refine G.iload_n dX9_scanInt_1 rfl rfl ?_
  refine G.iload_n dX9_scanInt_2 rfl rfl ?_
  refine G.bipush (48 : Int32) dX9_scanInt_3 kb_48 ?_
  refine G.bipush (57 : Int32) dX9_scanInt_5 kb_57 ?_
  refine G.callSi [.ref a1, .int a2, .int a3, .int (48 : Int32), .int (57 : Int32)] [] dX9_scanInt_7 lkX9_78 okX9_endOfRun (fun v hv => C_X9_endOfRun hv) (Nat.le_of_ble_eq_true rfl) rfl rfl (Nat.le_of_ble_eq_true rfl) h (fun v1 h => ?_)
  refine G.istore (lv' := [(4, .int v1), (0, .ref a0), (1, .ref a1), (2, .int a2), (3, .int a3)]) dX9_scanInt_10 (Nat.le_of_ble_eq_true rfl) rfl ?_
  refine G.iload dX9_scanInt_12 rfl ?_
  refine G.iload_n dX9_scanInt_14 rfl rfl ?_
  refine G.isub dX9_scanInt_15 ?_
  refine G.iconst (4 : Int32) dX9_scanInt_16 ki_4 ?_
  refine G.icmp_le 31 dX9_scanInt_17 (by decide) h (fun c2 h => ?_) (fun c2 h => ?_)
  · refine G.iconst (0 : Int32) dX9_scanInt_31 ki_0 ?_
    refine G.istore (lv' := [(5, .int (0 : Int32)), (4, .int v1), (0, .ref a0), (1, .ref a1), (2, .int a2), (3, .int a3)]) dX9_scanInt_32 (Nat.le_of_ble_eq_true rfl) rfl ?_
    refine G.iload_n dX9_scanInt_34 rfl rfl ?_
    refine G.istore (lv' := [(6, .int a3), (5, .int (0 : Int32)), (4, .int v1), (0, .ref a0), (1, .ref a1), (2, .int a2), (3, .int a3)]) dX9_scanInt_35 (Nat.le_of_ble_eq_true rfl) rfl ?_
    refine G.sub (lv' := [(0, .ref a0), (1, .ref a1), (3, .int a3), (4, .int v1), (5, .int (0 : Int32)), (6, .int a3)]) [3, 4, 6, 2, 1, 0] rfl ?_
    refine loopE (fun (s3 : Int32 × Int32) => G yX9_scanInt cX9_scanInt 7 (some .int) 1 37 [(0, .ref a0), (1, .ref a1), (3, .int a3), (4, .int v1), (5, .int s3.1), (6, .int s3.2)] [] M (some (.int o.1)) o.2) (fun (e3 : Int32) => G yX9_scanInt cX9_scanInt 7 (some .int) 1 65 [(0, .ref a0), (3, .int a3), (4, .int v1), (5, .int e3)] [] M (some (.int o.1)) o.2) h ?_ ?_
    · intro e3 h
      show G yX9_scanInt cX9_scanInt 7 (some .int) 1 65 [(0, .ref a0), (3, .int a3), (4, .int v1), (5, .int e3)] [] M (some (.int o.1)) o.2
      refine G.aload_n dX9_scanInt_65 rfl rfl ?_
      refine G.bipush (21 : Int32) dX9_scanInt_66 kb_21 ?_
      refine G.iload_n dX9_scanInt_68 rfl rfl ?_
      refine G.iload dX9_scanInt_69 rfl ?_
      refine G.i2l dX9_scanInt_71 ?_
      refine G.callVv (ci := 9) [.int (21 : Int32), .int a3, .long (e3).toInt64] [] dX9_scanInt_72 lkX9_57 okX9_put rfl (fun v hv => C_X9_put hv) (Nat.le_of_ble_eq_true rfl) rfl rfl (Nat.le_of_ble_eq_true rfl) h (fun M8 h => ?_)
      refine G.iload dX9_scanInt_75 rfl ?_
      exact G.iretW dX9_scanInt_77 rfl (rfl) h
    · intro s3 x3 h K3
      show G yX9_scanInt cX9_scanInt 7 (some .int) 1 37 [(0, .ref a0), (1, .ref a1), (3, .int a3), (4, .int v1), (5, .int s3.1), (6, .int s3.2)] [] M (some (.int o.1)) o.2
      refine G.iload dX9_scanInt_37 rfl ?_
      refine G.iload dX9_scanInt_39 rfl ?_
      refine G.icmp_ge 65 dX9_scanInt_41 (by decide) h (fun c4 h => ?_) (fun c4 h => ?_)
      · refine G.sub (lv' := [(0, .ref a0), (3, .int a3), (4, .int v1), (5, .int s3.1)]) [0, 2, 3, 4] rfl ?_
        have h := leafR' h K3
        exact h
      · refine G.iload dX9_scanInt_44 rfl ?_
        refine G.bipush (10 : Int32) dX9_scanInt_46 kb_10 ?_
        refine G.imul dX9_scanInt_48 ?_
        refine G.aload_n dX9_scanInt_49 rfl rfl ?_
        refine G.iload dX9_scanInt_50 rfl ?_
        refine G.bald dX9_scanInt_52 h (fun v5 h => ?_)
        refine G.bipush (48 : Int32) dX9_scanInt_53 kb_48 ?_
        refine G.isub dX9_scanInt_55 ?_
        refine G.iadd dX9_scanInt_56 ?_
        refine lets_elim h (fun w6 ew6 h => ?_)
        rw [← ew6]
        refine G.istore (lv' := [(5, .int w6), (0, .ref a0), (1, .ref a1), (3, .int a3), (4, .int v1), (6, .int s3.2)]) dX9_scanInt_57 (Nat.le_of_ble_eq_true rfl) rfl ?_
        refine G.iinc s3.2 (w := (s3.2 + (1 : Int32))) (lv' := [(6, .int (s3.2 + (1 : Int32))), (5, .int w6), (0, .ref a0), (1, .ref a1), (3, .int a3), (4, .int v1)]) dX9_scanInt_59 rfl rfl (Nat.le_of_ble_eq_true rfl) rfl ?_
        refine G.goto 37 dX9_scanInt_62 (by decide) ?_
        refine G.sub (lv' := [(0, .ref a0), (1, .ref a1), (3, .int a3), (4, .int v1), (5, .int w6), (6, .int (s3.2 + (1 : Int32)))]) [2, 3, 4, 5, 1, 0] rfl ?_
        have h := leafL' h K3
        exact h
  · refine G.aload_n dX9_scanInt_20 rfl rfl ?_
    refine G.bipush (34 : Int32) dX9_scanInt_21 kb_34 ?_
    refine G.iload_n dX9_scanInt_23 rfl rfl ?_
    refine G.lconst (0 : Int64) dX9_scanInt_24 rfl ?_
    refine G.callVv (ci := 9) [.int (34 : Int32), .int a3, .long (0 : Int64)] [] dX9_scanInt_25 lkX9_57 okX9_put rfl (fun v hv => C_X9_put hv) (Nat.le_of_ble_eq_true rfl) rfl rfl (Nat.le_of_ble_eq_true rfl) h (fun M10 h => ?_)
    refine G.iload dX9_scanInt_28 rfl ?_
    exact G.iretW dX9_scanInt_30 rfl (rfl) h
-- OnlyUpward$Tokens.isBeforeEqual(I)Z
set_option maxRecDepth 100000 in
set_option maxHeartbeats 4000000 in
def F_X9_isBeforeEqual (n : Nat) (M : AM) (a0 : Int32) : Option Int32 :=
  jn (some (1 : Int32)) fun j1 => if a0 = (61 : Int32) then j1 else if a0 = (33 : Int32) then j1 else if a0 = (60 : Int32) then j1 else some (0 : Int32)
set_option maxRecDepth 100000 in
set_option maxHeartbeats 4000000 in
theorem C_X9_isBeforeEqual {n : Nat} {M : AM} {a0 : Int32} {o : Int32} (h : F_X9_isBeforeEqual n M a0 = some o) : Cn yX9_isBeforeEqual cX9_isBeforeEqual 1 (some .boolean) 0 [.int a0] M (some (.int o)) M := by
  unfold F_X9_isBeforeEqual at h
  refine Cn.of rfl (Nat.le_of_ble_eq_true rfl) ?_
  show G yX9_isBeforeEqual cX9_isBeforeEqual 1 (some .boolean) 0 0 [(0, .int a0)] [] M (some (.int o)) M
  refine G.iload_n dX9_isBeforeEqual_0 rfl rfl ?_
  refine G.bipush (61 : Int32) dX9_isBeforeEqual_1 kb_61 ?_
  refine jn_elim (fun j1 => j1 = some o → G yX9_isBeforeEqual cX9_isBeforeEqual 1 (some .boolean) 0 18 [] [] M (some (.int o)) M) h ?_ ?_
  · intro h
    refine G.iconst (1 : Int32) dX9_isBeforeEqual_18 ki_1 ?_
    refine G.goto 23 dX9_isBeforeEqual_19 (by decide) ?_
    exact G.iret dX9_isBeforeEqual_23 rfl (by decide) h
  · intro j1 Jj1 h
    refine G.icmp_eq 18 dX9_isBeforeEqual_3 (by decide) h (fun c2 h => ?_) (fun c2 h => ?_)
    · refine G.sub (lv' := []) [] rfl ?_
      exact Jj1  h
    · refine G.iload_n dX9_isBeforeEqual_6 rfl rfl ?_
      refine G.bipush (33 : Int32) dX9_isBeforeEqual_7 kb_33 ?_
      refine G.icmp_eq 18 dX9_isBeforeEqual_9 (by decide) h (fun c3 h => ?_) (fun c3 h => ?_)
      · refine G.sub (lv' := []) [] rfl ?_
        exact Jj1  h
      · refine G.iload_n dX9_isBeforeEqual_12 rfl rfl ?_
        refine G.bipush (60 : Int32) dX9_isBeforeEqual_13 kb_60 ?_
        refine G.icmp_ne 22 dX9_isBeforeEqual_15 (by decide) h (fun c4 h => ?_) (fun c4 h => ?_)
        · refine G.sub (lv' := []) [] rfl ?_
          exact Jj1  h
        · refine G.iconst (0 : Int32) dX9_isBeforeEqual_22 ki_0 ?_
          exact G.iret dX9_isBeforeEqual_23 rfl (by decide) h
-- OnlyUpward$Tokens.longSign(I)I
set_option maxRecDepth 100000 in
set_option maxHeartbeats 4000000 in
def F_X9_longSign (n : Nat) (M : AM) (a0 : Int32) : Option Int32 :=
  if a0 = (60 : Int32) then some (31 : Int32) else if a0 = (61 : Int32) then some (28 : Int32) else some (29 : Int32)
set_option maxRecDepth 100000 in
set_option maxHeartbeats 4000000 in
theorem C_X9_longSign {n : Nat} {M : AM} {a0 : Int32} {o : Int32} (h : F_X9_longSign n M a0 = some o) : Cn yX9_longSign cX9_longSign 1 (some .int) 0 [.int a0] M (some (.int o)) M := by
  unfold F_X9_longSign at h
  refine Cn.of rfl (Nat.le_of_ble_eq_true rfl) ?_
  show G yX9_longSign cX9_longSign 1 (some .int) 0 0 [(0, .int a0)] [] M (some (.int o)) M
  refine G.iload_n dX9_longSign_0 rfl rfl ?_
  refine G.bipush (60 : Int32) dX9_longSign_1 kb_60 ?_
  refine G.icmp_ne 9 dX9_longSign_3 (by decide) h (fun c1 h => ?_) (fun c1 h => ?_)
  · refine G.bipush (31 : Int32) dX9_longSign_6 kb_31 ?_
    exact G.iret dX9_longSign_8 rfl (rfl) h
  · refine G.iload_n dX9_longSign_9 rfl rfl ?_
    refine G.bipush (61 : Int32) dX9_longSign_10 kb_61 ?_
    refine G.icmp_ne 20 dX9_longSign_12 (by decide) h (fun c2 h => ?_) (fun c2 h => ?_)
    · refine G.bipush (28 : Int32) dX9_longSign_15 kb_28 ?_
      refine G.goto 22 dX9_longSign_17 (by decide) ?_
      exact G.iret dX9_longSign_22 rfl (rfl) h
    · refine G.bipush (29 : Int32) dX9_longSign_20 kb_29 ?_
      exact G.iret dX9_longSign_22 rfl (rfl) h
-- OnlyUpward$Tokens.shortSign(I)I
set_option maxRecDepth 100000 in
set_option maxHeartbeats 4000000 in
def F_X9_shortSign (n : Nat) (M : AM) (a0 : Int32) : Option Int32 :=
  if a0 = (40 : Int32) then some (32 : Int32) else if a0 = (41 : Int32) then some (33 : Int32) else if a0 = (42 : Int32) then some (26 : Int32) else if a0 = (43 : Int32) then some (24 : Int32) else if a0 = (44 : Int32) then some (23 : Int32) else if a0 = (45 : Int32) then some (25 : Int32) else if a0 = (46 : Int32) then some (34 : Int32) else if a0 = (47 : Int32) then some (27 : Int32) else if a0 = (48 : Int32) then some (34 : Int32) else if a0 = (49 : Int32) then some (34 : Int32) else if a0 = (50 : Int32) then some (34 : Int32) else if a0 = (51 : Int32) then some (34 : Int32) else if a0 = (52 : Int32) then some (34 : Int32) else if a0 = (53 : Int32) then some (34 : Int32) else if a0 = (54 : Int32) then some (34 : Int32) else if a0 = (55 : Int32) then some (34 : Int32) else if a0 = (56 : Int32) then some (34 : Int32) else if a0 = (57 : Int32) then some (34 : Int32) else if a0 = (58 : Int32) then some (34 : Int32) else if a0 = (59 : Int32) then some (22 : Int32) else if a0 = (60 : Int32) then some (30 : Int32) else some (34 : Int32)
set_option maxRecDepth 100000 in
set_option maxHeartbeats 4000000 in
theorem C_X9_shortSign {n : Nat} {M : AM} {a0 : Int32} {o : Int32} (h : F_X9_shortSign n M a0 = some o) : Cn yX9_shortSign cX9_shortSign 1 (some .int) 0 [.int a0] M (some (.int o)) M := by
  unfold F_X9_shortSign at h
  refine Cn.of rfl (Nat.le_of_ble_eq_true rfl) ?_
  show G yX9_shortSign cX9_shortSign 1 (some .int) 0 0 [(0, .int a0)] [] M (some (.int o)) M
  refine G.iload_n dX9_shortSign_0 rfl rfl ?_
  refine G.sw h (fun c1 h => ?_) (fun c1 h => ?_)
  · refine G.tableIn 121 dX9_shortSign_1 (by rw [c1]; decide) (by rw [c1]; decide) (by rw [c1]; rfl) (by decide) ?_
    refine G.bipush (32 : Int32) dX9_shortSign_121 kb_32 ?_
    exact G.iret dX9_shortSign_123 rfl (rfl) h
  · refine G.sw h (fun c2 h => ?_) (fun c2 h => ?_)
    · refine G.tableIn 124 dX9_shortSign_1 (by rw [c2]; decide) (by rw [c2]; decide) (by rw [c2]; rfl) (by decide) ?_
      refine G.bipush (33 : Int32) dX9_shortSign_124 kb_33 ?_
      exact G.iret dX9_shortSign_126 rfl (rfl) h
    · refine G.sw h (fun c3 h => ?_) (fun c3 h => ?_)
      · refine G.tableIn 112 dX9_shortSign_1 (by rw [c3]; decide) (by rw [c3]; decide) (by rw [c3]; rfl) (by decide) ?_
        refine G.bipush (26 : Int32) dX9_shortSign_112 kb_26 ?_
        exact G.iret dX9_shortSign_114 rfl (rfl) h
      · refine G.sw h (fun c4 h => ?_) (fun c4 h => ?_)
        · refine G.tableIn 106 dX9_shortSign_1 (by rw [c4]; decide) (by rw [c4]; decide) (by rw [c4]; rfl) (by decide) ?_
          refine G.bipush (24 : Int32) dX9_shortSign_106 kb_24 ?_
          exact G.iret dX9_shortSign_108 rfl (rfl) h
        · refine G.sw h (fun c5 h => ?_) (fun c5 h => ?_)
          · refine G.tableIn 103 dX9_shortSign_1 (by rw [c5]; decide) (by rw [c5]; decide) (by rw [c5]; rfl) (by decide) ?_
            refine G.bipush (23 : Int32) dX9_shortSign_103 kb_23 ?_
            exact G.iret dX9_shortSign_105 rfl (rfl) h
          · refine G.sw h (fun c6 h => ?_) (fun c6 h => ?_)
            · refine G.tableIn 109 dX9_shortSign_1 (by rw [c6]; decide) (by rw [c6]; decide) (by rw [c6]; rfl) (by decide) ?_
              refine G.bipush (25 : Int32) dX9_shortSign_109 kb_25 ?_
              exact G.iret dX9_shortSign_111 rfl (rfl) h
            · refine G.sw h (fun c7 h => ?_) (fun c7 h => ?_)
              · refine G.tableIn 127 dX9_shortSign_1 (by rw [c7]; decide) (by rw [c7]; decide) (by rw [c7]; rfl) (by decide) ?_
                refine G.bipush (34 : Int32) dX9_shortSign_127 kb_34 ?_
                exact G.iret dX9_shortSign_129 rfl (rfl) h
              · refine G.sw h (fun c8 h => ?_) (fun c8 h => ?_)
                · refine G.tableIn 115 dX9_shortSign_1 (by rw [c8]; decide) (by rw [c8]; decide) (by rw [c8]; rfl) (by decide) ?_
                  refine G.bipush (27 : Int32) dX9_shortSign_115 kb_27 ?_
                  exact G.iret dX9_shortSign_117 rfl (rfl) h
                · refine G.sw h (fun c9 h => ?_) (fun c9 h => ?_)
                  · refine G.tableIn 127 dX9_shortSign_1 (by rw [c9]; decide) (by rw [c9]; decide) (by rw [c9]; rfl) (by decide) ?_
                    refine G.bipush (34 : Int32) dX9_shortSign_127 kb_34 ?_
                    exact G.iret dX9_shortSign_129 rfl (rfl) h
                  · refine G.sw h (fun c10 h => ?_) (fun c10 h => ?_)
                    · refine G.tableIn 127 dX9_shortSign_1 (by rw [c10]; decide) (by rw [c10]; decide) (by rw [c10]; rfl) (by decide) ?_
                      refine G.bipush (34 : Int32) dX9_shortSign_127 kb_34 ?_
                      exact G.iret dX9_shortSign_129 rfl (rfl) h
                    · refine G.sw h (fun c11 h => ?_) (fun c11 h => ?_)
                      · refine G.tableIn 127 dX9_shortSign_1 (by rw [c11]; decide) (by rw [c11]; decide) (by rw [c11]; rfl) (by decide) ?_
                        refine G.bipush (34 : Int32) dX9_shortSign_127 kb_34 ?_
                        exact G.iret dX9_shortSign_129 rfl (rfl) h
                      · refine G.sw h (fun c12 h => ?_) (fun c12 h => ?_)
                        · refine G.tableIn 127 dX9_shortSign_1 (by rw [c12]; decide) (by rw [c12]; decide) (by rw [c12]; rfl) (by decide) ?_
                          refine G.bipush (34 : Int32) dX9_shortSign_127 kb_34 ?_
                          exact G.iret dX9_shortSign_129 rfl (rfl) h
                        · refine G.sw h (fun c13 h => ?_) (fun c13 h => ?_)
                          · refine G.tableIn 127 dX9_shortSign_1 (by rw [c13]; decide) (by rw [c13]; decide) (by rw [c13]; rfl) (by decide) ?_
                            refine G.bipush (34 : Int32) dX9_shortSign_127 kb_34 ?_
                            exact G.iret dX9_shortSign_129 rfl (rfl) h
                          · refine G.sw h (fun c14 h => ?_) (fun c14 h => ?_)
                            · refine G.tableIn 127 dX9_shortSign_1 (by rw [c14]; decide) (by rw [c14]; decide) (by rw [c14]; rfl) (by decide) ?_
                              refine G.bipush (34 : Int32) dX9_shortSign_127 kb_34 ?_
                              exact G.iret dX9_shortSign_129 rfl (rfl) h
                            · refine G.sw h (fun c15 h => ?_) (fun c15 h => ?_)
                              · refine G.tableIn 127 dX9_shortSign_1 (by rw [c15]; decide) (by rw [c15]; decide) (by rw [c15]; rfl) (by decide) ?_
                                refine G.bipush (34 : Int32) dX9_shortSign_127 kb_34 ?_
                                exact G.iret dX9_shortSign_129 rfl (rfl) h
                              · refine G.sw h (fun c16 h => ?_) (fun c16 h => ?_)
                                · refine G.tableIn 127 dX9_shortSign_1 (by rw [c16]; decide) (by rw [c16]; decide) (by rw [c16]; rfl) (by decide) ?_
                                  refine G.bipush (34 : Int32) dX9_shortSign_127 kb_34 ?_
                                  exact G.iret dX9_shortSign_129 rfl (rfl) h
                                · refine G.sw h (fun c17 h => ?_) (fun c17 h => ?_)
                                  · refine G.tableIn 127 dX9_shortSign_1 (by rw [c17]; decide) (by rw [c17]; decide) (by rw [c17]; rfl) (by decide) ?_
                                    refine G.bipush (34 : Int32) dX9_shortSign_127 kb_34 ?_
                                    exact G.iret dX9_shortSign_129 rfl (rfl) h
                                  · refine G.sw h (fun c18 h => ?_) (fun c18 h => ?_)
                                    · refine G.tableIn 127 dX9_shortSign_1 (by rw [c18]; decide) (by rw [c18]; decide) (by rw [c18]; rfl) (by decide) ?_
                                      refine G.bipush (34 : Int32) dX9_shortSign_127 kb_34 ?_
                                      exact G.iret dX9_shortSign_129 rfl (rfl) h
                                    · refine G.sw h (fun c19 h => ?_) (fun c19 h => ?_)
                                      · refine G.tableIn 127 dX9_shortSign_1 (by rw [c19]; decide) (by rw [c19]; decide) (by rw [c19]; rfl) (by decide) ?_
                                        refine G.bipush (34 : Int32) dX9_shortSign_127 kb_34 ?_
                                        exact G.iret dX9_shortSign_129 rfl (rfl) h
                                      · refine G.sw h (fun c20 h => ?_) (fun c20 h => ?_)
                                        · refine G.tableIn 100 dX9_shortSign_1 (by rw [c20]; decide) (by rw [c20]; decide) (by rw [c20]; rfl) (by decide) ?_
                                          refine G.bipush (22 : Int32) dX9_shortSign_100 kb_22 ?_
                                          exact G.iret dX9_shortSign_102 rfl (rfl) h
                                        · refine G.sw h (fun c21 h => ?_) (fun c21 h => ?_)
                                          · refine G.tableIn 118 dX9_shortSign_1 (by rw [c21]; decide) (by rw [c21]; decide) (by rw [c21]; rfl) (by decide) ?_
                                            refine G.bipush (30 : Int32) dX9_shortSign_118 kb_30 ?_
                                            exact G.iret dX9_shortSign_120 rfl (rfl) h
                                          · refine G.tableOut 127 dX9_shortSign_1 (sw_out (lo := 40) (hi := 60) (fun z22 g1 g2 ge => ?_)) (by decide) ?_
                                            · have hz : z22 = 40 ∨ z22 = 41 ∨ z22 = 42 ∨ z22 = 43 ∨ z22 = 44 ∨ z22 = 45 ∨ z22 = 46 ∨ z22 = 47 ∨ z22 = 48 ∨ z22 = 49 ∨ z22 = 50 ∨ z22 = 51 ∨ z22 = 52 ∨ z22 = 53 ∨ z22 = 54 ∨ z22 = 55 ∨ z22 = 56 ∨ z22 = 57 ∨ z22 = 58 ∨ z22 = 59 ∨ z22 = 60 := by omega
                                              rcases hz with rfl | rfl | rfl | rfl | rfl | rfl | rfl | rfl | rfl | rfl | rfl | rfl | rfl | rfl | rfl | rfl | rfl | rfl | rfl | rfl | rfl
                                              · exact c1 ge
                                              · exact c2 ge
                                              · exact c3 ge
                                              · exact c4 ge
                                              · exact c5 ge
                                              · exact c6 ge
                                              · exact c7 ge
                                              · exact c8 ge
                                              · exact c9 ge
                                              · exact c10 ge
                                              · exact c11 ge
                                              · exact c12 ge
                                              · exact c13 ge
                                              · exact c14 ge
                                              · exact c15 ge
                                              · exact c16 ge
                                              · exact c17 ge
                                              · exact c18 ge
                                              · exact c19 ge
                                              · exact c20 ge
                                              · exact c21 ge
                                            · refine G.bipush (34 : Int32) dX9_shortSign_127 kb_34 ?_
                                              exact G.iret dX9_shortSign_129 rfl (rfl) h
-- OnlyUpward$Tokens.scanOne([BII)I
set_option maxRecDepth 100000 in
set_option maxHeartbeats 4000000 in
def F_X9_scanOne (n : Nat) (M : AM) (a0 : Nat) (a1 : Nat) (a2 : Int32) (a3 : Int32) : Option (Int32 × AM) :=
  (rdB M a1 a3).bind fun v1 => jn (jn (jn (fun (u2 : Int32) => jn (fun (u3 : Int32) => (rcv 9 M a0 (F_X9_put n M a0 u3 a3 (0 : Int64))).bind fun M5 => if u2 = 0 then some ((a3 + (1 : Int32)), M5) else some ((a3 + (2 : Int32)), M5)) fun j7 => if u2 = 0 then (F_X9_shortSign n M v1).bind fun v9 => j7 v9 else (F_X9_longSign n M v1).bind fun v10 => j7 v10) fun j11 => jn (j11 (0 : Int32)) fun j12 => if a2 ≤ (a3 + (1 : Int32)) then j12 else (rdB M a1 (a3 + (1 : Int32))).bind fun v14 => if v14 = (61 : Int32) then (F_X9_isBeforeEqual n M v1).bind fun v16 => if v16 = 0 then j12 else j11 (1 : Int32) else j12) fun j18 => if v1 < (48 : Int32) then j18 else if (57 : Int32) < v1 then j18 else (rcv 9 M a0 (F_X9_scanInt n M a0 a1 a2 a3)).bind fun v21 => some (v21.1, v21.2)) fun j22 => if v1 < (97 : Int32) then j22 else if (122 : Int32) < v1 then j22 else (rcv 9 M a0 (F_X9_scanWord n M a0 a1 a2 a3)).bind fun v25 => some (v25.1, v25.2)
set_option maxRecDepth 100000 in
set_option maxHeartbeats 4000000 in
theorem C_X9_scanOne {n : Nat} {M : AM} {a0 : Nat} {a1 : Nat} {a2 : Int32} {a3 : Int32} {o : (Int32 × AM)} (h : F_X9_scanOne n M a0 a1 a2 a3 = some o) : Cn yX9_scanOne cX9_scanOne 6 (some .int) 2 [.ref a0, .ref a1, .int a2, .int a3] M (some (.int o.1)) o.2 := by
  unfold F_X9_scanOne at h
  refine Cn.of rfl (Nat.le_of_ble_eq_true rfl) ?_
  show G yX9_scanOne cX9_scanOne 6 (some .int) 2 0 [(0, .ref a0), (1, .ref a1), (2, .int a2), (3, .int a3)] [] M (some (.int o.1)) o.2
  refine G.aload_n dX9_scanOne_0 rfl rfl ?_
  refine G.iload_n dX9_scanOne_1 rfl rfl ?_
  refine G.bald dX9_scanOne_2 h (fun v1 h => ?_)
  refine G.istore (lv' := [(4, .int v1), (0, .ref a0), (1, .ref a1), (2, .int a2), (3, .int a3)]) dX9_scanOne_3 (Nat.le_of_ble_eq_true rfl) rfl ?_
  refine G.iload dX9_scanOne_5 rfl ?_
  refine G.bipush (97 : Int32) dX9_scanOne_7 kb_97 ?_
  refine jn_elim (fun j22 => j22 = some o → G yX9_scanOne cX9_scanOne 6 (some .int) 2 27 [(0, .ref a0), (1, .ref a1), (2, .int a2), (3, .int a3), (4, .int v1)] [] M (some (.int o.1)) o.2) h ?_ ?_
  · intro h
    refine G.iload dX9_scanOne_27 rfl ?_
    refine G.bipush (48 : Int32) dX9_scanOne_29 kb_48 ?_
    refine jn_elim (fun j18 => j18 = some o → G yX9_scanOne cX9_scanOne 6 (some .int) 2 49 [(0, .ref a0), (1, .ref a1), (2, .int a2), (3, .int a3), (4, .int v1)] [] M (some (.int o.1)) o.2) h ?_ ?_
    · intro h
      refine G.iload_n dX9_scanOne_49 rfl rfl ?_
      refine G.iconst (1 : Int32) dX9_scanOne_50 ki_1 ?_
      refine G.iadd dX9_scanOne_51 ?_
      refine G.iload_n dX9_scanOne_52 rfl rfl ?_
      refine jn_elim (fun j11 => ∀ (u2 : Int32), j11 u2 = some o → G yX9_scanOne cX9_scanOne 6 (some .int) 2 79 [(0, .ref a0), (3, .int a3), (4, .int v1)] [.int u2] M (some (.int o.1)) o.2) h ?_ ?_
      · intro u2 h
        refine G.istore (lv' := [(5, .int u2), (0, .ref a0), (3, .int a3), (4, .int v1)]) dX9_scanOne_79 (Nat.le_of_ble_eq_true rfl) rfl ?_
        refine G.aload_n dX9_scanOne_81 rfl rfl ?_
        refine G.iload dX9_scanOne_82 rfl ?_
        refine jn_elim (fun j7 => ∀ (u3 : Int32), j7 u3 = some o → G yX9_scanOne cX9_scanOne 6 (some .int) 2 100 [(3, .int a3), (5, .int u2)] [.int u3, .ref a0] M (some (.int o.1)) o.2) h ?_ ?_
        · intro u3 h
          refine G.iload_n dX9_scanOne_100 rfl rfl ?_
          refine G.lconst (0 : Int64) dX9_scanOne_101 rfl ?_
          refine G.callVv (ci := 9) [.int u3, .int a3, .long (0 : Int64)] [] dX9_scanOne_102 lkX9_57 okX9_put rfl (fun v hv => C_X9_put hv) (Nat.le_of_ble_eq_true rfl) rfl rfl (Nat.le_of_ble_eq_true rfl) h (fun M5 h => ?_)
          refine G.iload dX9_scanOne_105 rfl ?_
          refine G.if_eq 116 dX9_scanOne_107 (by decide) h (fun c6 h => ?_) (fun c6 h => ?_)
          · refine G.iload_n dX9_scanOne_116 rfl rfl ?_
            refine G.iconst (1 : Int32) dX9_scanOne_117 ki_1 ?_
            refine G.iadd dX9_scanOne_118 ?_
            exact G.iretW dX9_scanOne_119 rfl (rfl) h
          · refine G.iload_n dX9_scanOne_110 rfl rfl ?_
            refine G.iconst (2 : Int32) dX9_scanOne_111 ki_2 ?_
            refine G.iadd dX9_scanOne_112 ?_
            refine G.goto 119 dX9_scanOne_113 (by decide) ?_
            exact G.iretW dX9_scanOne_119 rfl (rfl) h
        · intro j7 Jj7 h
          refine G.if_eq 95 dX9_scanOne_84 (by decide) h (fun c8 h => ?_) (fun c8 h => ?_)
          · refine G.iload dX9_scanOne_95 rfl ?_
            refine G.callSi [.int v1] [.ref a0] dX9_scanOne_97 lkX9_75 okX9_shortSign (fun v hv => C_X9_shortSign hv) (Nat.le_of_ble_eq_true rfl) rfl rfl (Nat.le_of_ble_eq_true rfl) h (fun v9 h => ?_)
            refine G.sub (lv' := [(3, .int a3), (5, .int u2)]) [2, 0] rfl ?_
            exact Jj7 _ h
          · refine G.iload dX9_scanOne_87 rfl ?_
            refine G.callSi [.int v1] [.ref a0] dX9_scanOne_89 lkX9_71 okX9_longSign (fun v hv => C_X9_longSign hv) (Nat.le_of_ble_eq_true rfl) rfl rfl (Nat.le_of_ble_eq_true rfl) h (fun v10 h => ?_)
            refine G.goto 100 dX9_scanOne_92 (by decide) ?_
            refine G.sub (lv' := [(3, .int a3), (5, .int u2)]) [2, 0] rfl ?_
            exact Jj7 _ h
      · intro j11 Jj11 h
        refine jn_elim (fun j12 => j12 = some o → G yX9_scanOne cX9_scanOne 6 (some .int) 2 78 [(0, .ref a0), (3, .int a3), (4, .int v1)] [] M (some (.int o.1)) o.2) h ?_ ?_
        · intro h
          refine G.iconst (0 : Int32) dX9_scanOne_78 ki_0 ?_
          refine G.sub (lv' := [(0, .ref a0), (3, .int a3), (4, .int v1)]) [0, 1, 2] rfl ?_
          exact Jj11 _ h
        · intro j12 Jj12 h
          refine G.icmp_ge 78 dX9_scanOne_53 (by decide) h (fun c13 h => ?_) (fun c13 h => ?_)
          · refine G.sub (lv' := [(0, .ref a0), (3, .int a3), (4, .int v1)]) [0, 3, 4] rfl ?_
            exact Jj12  h
          · refine G.aload_n dX9_scanOne_56 rfl rfl ?_
            refine G.iload_n dX9_scanOne_57 rfl rfl ?_
            refine G.iconst (1 : Int32) dX9_scanOne_58 ki_1 ?_
            refine G.iadd dX9_scanOne_59 ?_
            refine G.bald dX9_scanOne_60 h (fun v14 h => ?_)
            refine G.bipush (61 : Int32) dX9_scanOne_61 kb_61 ?_
            refine G.icmp_ne 78 dX9_scanOne_63 (by decide) h (fun c15 h => ?_) (fun c15 h => ?_)
            · refine G.iload dX9_scanOne_66 rfl ?_
              refine G.callSi [.int v1] [] dX9_scanOne_68 lkX9_67 okX9_isBeforeEqual (fun v hv => C_X9_isBeforeEqual hv) (Nat.le_of_ble_eq_true rfl) rfl rfl (Nat.le_of_ble_eq_true rfl) h (fun v16 h => ?_)
              refine G.if_eq 78 dX9_scanOne_71 (by decide) h (fun c17 h => ?_) (fun c17 h => ?_)
              · refine G.sub (lv' := [(0, .ref a0), (3, .int a3), (4, .int v1)]) [0, 3, 4] rfl ?_
                exact Jj12  h
              · refine G.iconst (1 : Int32) dX9_scanOne_74 ki_1 ?_
                refine G.goto 79 dX9_scanOne_75 (by decide) ?_
                refine G.sub (lv' := [(0, .ref a0), (3, .int a3), (4, .int v1)]) [0, 3, 4] rfl ?_
                exact Jj11 _ h
            · refine G.sub (lv' := [(0, .ref a0), (3, .int a3), (4, .int v1)]) [0, 3, 4] rfl ?_
              exact Jj12  h
    · intro j18 Jj18 h
      refine G.icmp_lt 49 dX9_scanOne_31 (by decide) h (fun c19 h => ?_) (fun c19 h => ?_)
      · refine G.sub (lv' := [(0, .ref a0), (1, .ref a1), (2, .int a2), (3, .int a3), (4, .int v1)]) [0, 1, 2, 3, 4] rfl ?_
        exact Jj18  h
      · refine G.iload dX9_scanOne_34 rfl ?_
        refine G.bipush (57 : Int32) dX9_scanOne_36 kb_57 ?_
        refine G.icmp_gt 49 dX9_scanOne_38 (by decide) h (fun c20 h => ?_) (fun c20 h => ?_)
        · refine G.sub (lv' := [(0, .ref a0), (1, .ref a1), (2, .int a2), (3, .int a3), (4, .int v1)]) [0, 1, 2, 3, 4] rfl ?_
          exact Jj18  h
        · refine G.aload_n dX9_scanOne_41 rfl rfl ?_
          refine G.aload_n dX9_scanOne_42 rfl rfl ?_
          refine G.iload_n dX9_scanOne_43 rfl rfl ?_
          refine G.iload_n dX9_scanOne_44 rfl rfl ?_
          refine G.callVi (ci := 9) [.ref a1, .int a2, .int a3] [] dX9_scanOne_45 lkX9_64 okX9_scanInt rfl (fun v hv => C_X9_scanInt hv) (Nat.le_of_ble_eq_true rfl) rfl rfl (Nat.le_of_ble_eq_true rfl) h (fun v21 h => ?_)
          exact G.iretW dX9_scanOne_48 rfl (rfl) h
  · intro j22 Jj22 h
    refine G.icmp_lt 27 dX9_scanOne_9 (by decide) h (fun c23 h => ?_) (fun c23 h => ?_)
    · refine G.sub (lv' := [(0, .ref a0), (1, .ref a1), (2, .int a2), (3, .int a3), (4, .int v1)]) [1, 2, 3, 4, 0] rfl ?_
      exact Jj22  h
    · refine G.iload dX9_scanOne_12 rfl ?_
      refine G.bipush (122 : Int32) dX9_scanOne_14 kb_122 ?_
      refine G.icmp_gt 27 dX9_scanOne_16 (by decide) h (fun c24 h => ?_) (fun c24 h => ?_)
      · refine G.sub (lv' := [(0, .ref a0), (1, .ref a1), (2, .int a2), (3, .int a3), (4, .int v1)]) [1, 2, 3, 4, 0] rfl ?_
        exact Jj22  h
      · refine G.aload_n dX9_scanOne_19 rfl rfl ?_
        refine G.aload_n dX9_scanOne_20 rfl rfl ?_
        refine G.iload_n dX9_scanOne_21 rfl rfl ?_
        refine G.iload_n dX9_scanOne_22 rfl rfl ?_
        refine G.callVi (ci := 9) [.ref a1, .int a2, .int a3] [] dX9_scanOne_23 lkX9_61 okX9_scanWord rfl (fun v hv => C_X9_scanWord hv) (Nat.le_of_ble_eq_true rfl) rfl rfl (Nat.le_of_ble_eq_true rfl) h (fun v25 h => ?_)
        exact G.iretW dX9_scanOne_26 rfl (rfl) h
