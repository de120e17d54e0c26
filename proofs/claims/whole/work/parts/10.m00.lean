-- java/lang/String.coder()B
set_option maxRecDepth 100000 in
set_option maxHeartbeats 4000000 in
def F_J0_coder_7d493 (n : Nat) (M : AM)  : Option Int32 :=
  if (1 : Int32) = 0 then some (1 : Int32) else some (0 : Int32)
set_option maxRecDepth 100000 in
set_option maxHeartbeats 4000000 in
theorem C_J0_coder_7d493 {n : Nat} {M : AM}  {o : Int32} (h : F_J0_coder_7d493 n M  = some o) : Cn yJ0_coder_7d493 cJ0_coder_7d493 1 (some .byte) 0 [.ref 5] M (some (.int o)) M := by
  unfold F_J0_coder_7d493 at h
  refine Cn.of rfl (Nat.le_of_ble_eq_true rfl) ?_
  show G yJ0_coder_7d493 cJ0_coder_7d493 1 (some .byte) 0 0 [(0, .ref 5)] [] M (some (.int o)) M
  refine G.getsC dJ0_coder_7d493_0 gsJ0_38 ?_
  refine G.if_eq 13 dJ0_coder_7d493_3 (by decide) h (fun c1 h => ?_) (fun c1 h => ?_)
  · refine G.iconst (1 : Int32) dJ0_coder_7d493_13 ki_1 ?_
    exact G.iret dJ0_coder_7d493_14 rfl (by decide) h
  · refine G.aload_n dJ0_coder_7d493_6 rfl rfl ?_
    refine G.strC dJ0_coder_7d493_7 gfJ0_15 ?_
    refine G.goto 14 dJ0_coder_7d493_10 (by decide) ?_
    exact G.iret dJ0_coder_7d493_14 rfl (by decide) h
-- java/lang/String.length()I
set_option maxRecDepth 100000 in
set_option maxHeartbeats 4000000 in
def F_J0_length_8abf5 (n : Nat) (M : AM)  : Option Int32 :=
  (aln M 6).bind fun v2 => (F_J0_coder_7d493 n M ).bind fun v3 => some (v2 >>> (v3 &&& 31))
set_option maxRecDepth 100000 in
set_option maxHeartbeats 4000000 in
theorem C_J0_length_8abf5 {n : Nat} {M : AM}  {o : Int32} (h : F_J0_length_8abf5 n M  = some o) : Cn yJ0_length_8abf5 cJ0_length_8abf5 1 (some .int) 1 [.ref 5] M (some (.int o)) M := by
  unfold F_J0_length_8abf5 at h
  refine Cn.of rfl (Nat.le_of_ble_eq_true rfl) ?_
  show G yJ0_length_8abf5 cJ0_length_8abf5 1 (some .int) 1 0 [(0, .ref 5)] [] M (some (.int o)) M
  refine G.aload_n dJ0_length_8abf5_0 rfl rfl ?_
  refine G.strV dJ0_length_8abf5_1 gfJ0_9 ?_
  refine G.alen dJ0_length_8abf5_4 h (fun v2 h => ?_)
  refine G.aload_n dJ0_length_8abf5_5 rfl rfl ?_
  refine G.callTi [] [.int v2] dJ0_length_8abf5_6 ltJ0_335 okJ0_coder_7d493 rfl (fun v hv => C_J0_coder_7d493 hv) (Nat.le_of_ble_eq_true rfl) rfl rfl (Nat.le_of_ble_eq_true rfl) h (fun v3 h => ?_)
  refine G.ishr dJ0_length_8abf5_9 ?_
  exact G.iret dJ0_length_8abf5_10 rfl (rfl) h
-- java/lang/String.isLatin1()Z
set_option maxRecDepth 100000 in
set_option maxHeartbeats 4000000 in
def F_J0_isLatin1_aae02 (n : Nat) (M : AM)  : Option Int32 :=
  if (1 : Int32) = 0 then some (0 : Int32) else if (0 : Int32) = 0 then some (1 : Int32) else some (0 : Int32)
set_option maxRecDepth 100000 in
set_option maxHeartbeats 4000000 in
theorem C_J0_isLatin1_aae02 {n : Nat} {M : AM}  {o : Int32} (h : F_J0_isLatin1_aae02 n M  = some o) : Cn yJ0_isLatin1_aae02 cJ0_isLatin1_aae02 1 (some .boolean) 0 [.ref 5] M (some (.int o)) M := by
  unfold F_J0_isLatin1_aae02 at h
  refine Cn.of rfl (Nat.le_of_ble_eq_true rfl) ?_
  show G yJ0_isLatin1_aae02 cJ0_isLatin1_aae02 1 (some .boolean) 0 0 [(0, .ref 5)] [] M (some (.int o)) M
  refine G.getsC dJ0_isLatin1_aae02_0 gsJ0_38 ?_
  refine G.if_eq 17 dJ0_isLatin1_aae02_3 (by decide) h (fun c1 h => ?_) (fun c1 h => ?_)
  · refine G.iconst (0 : Int32) dJ0_isLatin1_aae02_17 ki_0 ?_
    exact G.iret dJ0_isLatin1_aae02_18 rfl (by decide) h
  · refine G.aload_n dJ0_isLatin1_aae02_6 rfl rfl ?_
    refine G.strC dJ0_isLatin1_aae02_7 gfJ0_15 ?_
    refine G.if_ne 17 dJ0_isLatin1_aae02_10 (by decide) h (fun c3 h => ?_) (fun c3 h => ?_)
    · refine G.iconst (1 : Int32) dJ0_isLatin1_aae02_13 ki_1 ?_
      refine G.goto 18 dJ0_isLatin1_aae02_14 (by decide) ?_
      exact G.iret dJ0_isLatin1_aae02_18 rfl (by decide) h
    · refine G.iconst (0 : Int32) dJ0_isLatin1_aae02_17 ki_0 ?_
      exact G.iret dJ0_isLatin1_aae02_18 rfl (by decide) h
-- jdk/internal/util/Preconditions.checkIndex(IILjava/util/function/BiFunction;)I
set_option maxRecDepth 100000 in
set_option maxHeartbeats 4000000 in
def F_J3_checkIndex_8e157 (n : Nat) (M : AM) (a0 : Int32) (a1 : Int32) : Option Int32 :=
  jn (none) fun j1 => if a0 < 0 then j1 else if a0 < a1 then some a0 else j1
set_option maxRecDepth 100000 in
set_option maxHeartbeats 4000000 in
theorem C_J3_checkIndex_8e157 {n : Nat} {M : AM} {a0 : Int32} {a1 : Int32} {o : Int32} (h : F_J3_checkIndex_8e157 n M a0 a1 = some o) : Cn yJ3_checkIndex_8e157 cJ3_checkIndex_8e157 3 (some .int) 0 [.int a0, .int a1, .float 0] M (some (.int o)) M := by
  unfold F_J3_checkIndex_8e157 at h
  refine Cn.of rfl (Nat.le_of_ble_eq_true rfl) ?_
  show G yJ3_checkIndex_8e157 cJ3_checkIndex_8e157 3 (some .int) 0 0 [(0, .int a0), (1, .int a1), (2, .float 0)] [] M (some (.int o)) M
  refine G.iload_n dJ3_checkIndex_8e157_0 rfl rfl ?_
  refine jn_elim (fun j1 => j1 = some o → G yJ3_checkIndex_8e157 cJ3_checkIndex_8e157 3 (some .int) 0 9 [(0, .int a0), (1, .int a1), (2, .float 0)] [] M (some (.int o)) M) h ?_ ?_
  · intro h
    cases h
  · intro j1 Jj1 h
    refine G.if_lt 9 dJ3_checkIndex_8e157_1 (by decide) h (fun c2 h => ?_) (fun c2 h => ?_)
    · refine G.sub (lv' := [(0, .int a0), (1, .int a1), (2, .float 0)]) [0, 1, 2] rfl ?_
      exact Jj1  h
    · refine G.iload_n dJ3_checkIndex_8e157_4 rfl rfl ?_
      refine G.iload_n dJ3_checkIndex_8e157_5 rfl rfl ?_
      refine G.icmp_lt 16 dJ3_checkIndex_8e157_6 (by decide) h (fun c3 h => ?_) (fun c3 h => ?_)
      · refine G.iload_n dJ3_checkIndex_8e157_16 rfl rfl ?_
        exact G.iret dJ3_checkIndex_8e157_17 rfl (rfl) h
      · refine G.sub (lv' := [(0, .int a0), (1, .int a1), (2, .float 0)]) [0, 1, 2] rfl ?_
        exact Jj1  h
-- java/lang/String.checkIndex(II)V
set_option maxRecDepth 100000 in
set_option maxHeartbeats 4000000 in
def F_J0_checkIndex_df160 (n : Nat) (M : AM) (a0 : Int32) (a1 : Int32) : Option Unit :=
  (F_J3_checkIndex_8e157 n M a0 a1).bind fun v1 => some ()
set_option maxRecDepth 100000 in
set_option maxHeartbeats 4000000 in
theorem C_J0_checkIndex_df160 {n : Nat} {M : AM} {a0 : Int32} {a1 : Int32} {o : Unit} (h : F_J0_checkIndex_df160 n M a0 a1 = some o) : Cn yJ0_checkIndex_df160 cJ0_checkIndex_df160 2 none 1 [.int a0, .int a1] M none M := by
  unfold F_J0_checkIndex_df160 at h
  refine Cn.of rfl (Nat.le_of_ble_eq_true rfl) ?_
  show G yJ0_checkIndex_df160 cJ0_checkIndex_df160 2 none 1 0 [(0, .int a0), (1, .int a1)] [] M none M
  refine G.iload_n dJ0_checkIndex_df160_0 rfl rfl ?_
  refine G.iload_n dJ0_checkIndex_df160_1 rfl rfl ?_
  refine G.getsF dJ0_checkIndex_df160_2 gsJ0_1053 ?_
  refine G.callSi [.int a0, .int a1, .float 0] [] dJ0_checkIndex_df160_5 lkJ0_1059 okJ3_checkIndex_8e157 (fun v hv => C_J3_checkIndex_8e157 hv) (Nat.le_of_ble_eq_true rfl) rfl rfl (Nat.le_of_ble_eq_true rfl) h (fun v1 h => ?_)
  refine G.pop dJ0_checkIndex_df160_8 rfl ?_
  exact G.vret dJ0_checkIndex_df160_9 rfl h
-- java/lang/StringLatin1.charAt([BI)C
set_option maxRecDepth 100000 in
set_option maxHeartbeats 4000000 in
def F_J1_charAt_3b067 (n : Nat) (M : AM) (a0 : Nat) (a1 : Int32) : Option Int32 :=
  (aln M a0).bind fun v1 => (F_J0_checkIndex_df160 n M a1 v1).bind fun v2 => (rdB M a0 a1).bind fun v3 => gd (narrow .char (.int (((v3 &&& (255 : Int32))).toUInt32 % 65536).toInt32) = .int (((v3 &&& (255 : Int32))).toUInt32 % 65536).toInt32) (some (((v3 &&& (255 : Int32))).toUInt32 % 65536).toInt32)
set_option maxRecDepth 100000 in
set_option maxHeartbeats 4000000 in
theorem C_J1_charAt_3b067 {n : Nat} {M : AM} {a0 : Nat} {a1 : Int32} {o : Int32} (h : F_J1_charAt_3b067 n M a0 a1 = some o) : Cn yJ1_charAt_3b067 cJ1_charAt_3b067 2 (some .char) 2 [.ref a0, .int a1] M (some (.int o)) M := by
  unfold F_J1_charAt_3b067 at h
  refine Cn.of rfl (Nat.le_of_ble_eq_true rfl) ?_
  show G yJ1_charAt_3b067 cJ1_charAt_3b067 2 (some .char) 2 0 [(0, .ref a0), (1, .int a1)] [] M (some (.int o)) M
  refine G.iload_n dJ1_charAt_3b067_0 rfl rfl ?_
  refine G.aload_n dJ1_charAt_3b067_1 rfl rfl ?_
  refine G.alen dJ1_charAt_3b067_2 h (fun v1 h => ?_)
  refine G.callSv [.int a1, .int v1] [] dJ1_charAt_3b067_3 lkJ1_9 okJ0_checkIndex_df160 (fun v hv => C_J0_checkIndex_df160 hv) (Nat.le_of_ble_eq_true rfl) rfl rfl (Nat.le_of_ble_eq_true rfl) h (fun v2 h => ?_)
  refine G.aload_n dJ1_charAt_3b067_6 rfl rfl ?_
  refine G.iload_n dJ1_charAt_3b067_7 rfl rfl ?_
  refine G.bald dJ1_charAt_3b067_8 h (fun v3 h => ?_)
  refine G.sipush (255 : Int32) dJ1_charAt_3b067_9 ks_255 ?_
  refine G.iand dJ1_charAt_3b067_12 ?_
  refine G.i2c dJ1_charAt_3b067_13 rfl ?_
  refine gd_elim h (fun c4 h => ?_)
  exact G.iret dJ1_charAt_3b067_14 rfl (c4) h
-- java/lang/String.charAt(I)C
set_option maxRecDepth 100000 in
set_option maxHeartbeats 4000000 in
def F_J0_charAt_5068e (n : Nat) (M : AM) (a1 : Int32) : Option Int32 :=
  (F_J0_isLatin1_aae02 n M ).bind fun v1 => if v1 = 0 then none else (F_J1_charAt_3b067 n M 6 a1).bind fun v5 => gd (narrow .char (.int v5) = .int v5) (some v5)
set_option maxRecDepth 100000 in
set_option maxHeartbeats 4000000 in
theorem C_J0_charAt_5068e {n : Nat} {M : AM} {a1 : Int32} {o : Int32} (h : F_J0_charAt_5068e n M a1 = some o) : Cn yJ0_charAt_5068e cJ0_charAt_5068e 2 (some .char) 3 [.ref 5, .int a1] M (some (.int o)) M := by
  unfold F_J0_charAt_5068e at h
  refine Cn.of rfl (Nat.le_of_ble_eq_true rfl) ?_
  show G yJ0_charAt_5068e cJ0_charAt_5068e 2 (some .char) 3 0 [(0, .ref 5), (1, .int a1)] [] M (some (.int o)) M
  refine G.aload_n dJ0_charAt_5068e_0 rfl rfl ?_
  refine G.callTi [] [] dJ0_charAt_5068e_1 ltJ0_492 okJ0_isLatin1_aae02 rfl (fun v hv => C_J0_isLatin1_aae02 hv) (Nat.le_of_ble_eq_true rfl) rfl rfl (Nat.le_of_ble_eq_true rfl) h (fun v1 h => ?_)
  refine G.if_eq 16 dJ0_charAt_5068e_4 (by decide) h (fun c2 h => ?_) (fun c2 h => ?_)
  · refine G.aload_n dJ0_charAt_5068e_16 rfl rfl ?_
    refine G.strV dJ0_charAt_5068e_17 gfJ0_9 ?_
    refine G.iload_n dJ0_charAt_5068e_20 rfl rfl ?_
    cases h
  · refine G.aload_n dJ0_charAt_5068e_7 rfl rfl ?_
    refine G.strV dJ0_charAt_5068e_8 gfJ0_9 ?_
    refine G.iload_n dJ0_charAt_5068e_11 rfl rfl ?_
    refine G.callSi [.ref 6, .int a1] [] dJ0_charAt_5068e_12 lkJ0_495 okJ1_charAt_3b067 (fun v hv => C_J1_charAt_3b067 hv) (Nat.le_of_ble_eq_true rfl) rfl rfl (Nat.le_of_ble_eq_true rfl) h (fun v5 h => ?_)
    refine gd_elim h (fun c6 h => ?_)
    exact G.iret dJ0_charAt_5068e_15 rfl (c6) h
-- java/util/Arrays.fill([II)V
set_option maxRecDepth 100000 in
set_option maxHeartbeats 4000000 in
def F_J7_fill_53178 (n : Nat) (M : AM) (a0 : Nat) (a1 : Int32) : Option AM :=
  (aln M a0).bind fun v1 => (iter (fun (s2 : Int32 × AM) => if v1 ≤ s2.1 then some (.inr s2.2) else (wrI s2.2 a0 s2.1 a1).bind fun M4 => some (.inl ((s2.1 + (1 : Int32)), M4))) n ((0 : Int32), M)).bind fun (e2 : AM) => some e2
set_option maxRecDepth 100000 in
set_option maxHeartbeats 4000000 in
theorem C_J7_fill_53178 {n : Nat} {M : AM} {a0 : Nat} {a1 : Int32} {o : AM} (h : F_J7_fill_53178 n M a0 a1 = some o) : Cn yJ7_fill_53178 cJ7_fill_53178 4 none 0 [.ref a0, .int a1] M none o := by
  unfold F_J7_fill_53178 at h
  refine Cn.of rfl (Nat.le_of_ble_eq_true rfl) ?_
  show G yJ7_fill_53178 cJ7_fill_53178 4 none 0 0 [(0, .ref a0), (1, .int a1)] [] M none o
  refine G.iconst (0 : Int32) dJ7_fill_53178_0 ki_0 ?_
  refine G.istore_n (lv' := [(2, .int (0 : Int32)), (0, .ref a0), (1, .int a1)]) dJ7_fill_53178_1 rfl (Nat.le_of_ble_eq_true rfl) rfl ?_
  refine G.aload_n dJ7_fill_53178_2 rfl rfl ?_
  refine G.alen dJ7_fill_53178_3 h (fun v1 h => ?_)
  refine G.istore_n (lv' := [(3, .int v1), (2, .int (0 : Int32)), (0, .ref a0), (1, .int a1)]) dJ7_fill_53178_4 rfl (Nat.le_of_ble_eq_true rfl) rfl ?_
  refine G.sub (lv' := [(0, .ref a0), (1, .int a1), (2, .int (0 : Int32)), (3, .int v1)]) [2, 3, 1, 0] rfl ?_
  refine loopE (fun (s2 : Int32 × AM) => G yJ7_fill_53178 cJ7_fill_53178 4 none 0 5 [(0, .ref a0), (1, .int a1), (2, .int s2.1), (3, .int v1)] [] s2.2 none o) (fun (e2 : AM) => G yJ7_fill_53178 cJ7_fill_53178 4 none 0 20 [] [] e2 none o) h ?_ ?_
  · intro e2 h
    show G yJ7_fill_53178 cJ7_fill_53178 4 none 0 20 [] [] e2 none o
    exact G.vretW dJ7_fill_53178_20 rfl h
  · intro s2 x2 h K2
    show G yJ7_fill_53178 cJ7_fill_53178 4 none 0 5 [(0, .ref a0), (1, .int a1), (2, .int s2.1), (3, .int v1)] [] s2.2 none o
    refine G.iload_n dJ7_fill_53178_5 rfl rfl ?_
    refine G.iload_n dJ7_fill_53178_6 rfl rfl ?_
    refine G.icmp_ge 20 dJ7_fill_53178_7 (by decide) h (fun c3 h => ?_) (fun c3 h => ?_)
    · refine G.sub (lv' := []) [] rfl ?_
      have h := leafR' h K2
      exact h
    · refine G.aload_n dJ7_fill_53178_10 rfl rfl ?_
      refine G.iload_n dJ7_fill_53178_11 rfl rfl ?_
      refine G.iload_n dJ7_fill_53178_12 rfl rfl ?_
      refine G.iast dJ7_fill_53178_13 h (fun M4 h => ?_)
      refine G.iinc s2.1 (w := (s2.1 + (1 : Int32))) (lv' := [(2, .int (s2.1 + (1 : Int32))), (0, .ref a0), (1, .int a1), (3, .int v1)]) dJ7_fill_53178_14 rfl rfl (Nat.le_of_ble_eq_true rfl) rfl ?_
      refine G.goto 5 dJ7_fill_53178_17 (by decide) ?_
      refine G.sub (lv' := [(0, .ref a0), (1, .int a1), (2, .int (s2.1 + (1 : Int32))), (3, .int v1)]) [1, 2, 0, 3] rfl ?_
      have h := leafL' h K2
      exact h
-- OnlyUpwardModel.appends(JI)J
set_option maxRecDepth 100000 in
set_option maxHeartbeats 4000000 in
def F_X12_appends (n : Nat) (M : AM) (a0 : Int64) (a2 : Int32) : Option Int64 :=
  jn (fun (u1 : Int64) => some u1) fun j2 => if a2 = 0 then j2 a0 else j2 (((27 : Int64) * a0) + (((a2 - (97 : Int32)) + (1 : Int32))).toInt64)
set_option maxRecDepth 100000 in
set_option maxHeartbeats 4000000 in
theorem C_X12_appends {n : Nat} {M : AM} {a0 : Int64} {a2 : Int32} {o : Int64} (h : F_X12_appends n M a0 a2 = some o) : Cn yX12_appends cX12_appends 3 (some .long) 0 [.long a0, .int a2] M (some (.long o)) M := by
  unfold F_X12_appends at h
  refine Cn.of rfl (Nat.le_of_ble_eq_true rfl) ?_
  show G yX12_appends cX12_appends 3 (some .long) 0 0 [(0, .long a0), (2, .int a2)] [] M (some (.long o)) M
  refine G.iload_n dX12_appends_0 rfl rfl ?_
  refine jn_elim (fun j2 => ∀ (u1 : Int64), j2 u1 = some o → G yX12_appends cX12_appends 3 (some .long) 0 21 [] [.long u1] M (some (.long o)) M) h ?_ ?_
  · intro u1 h
    exact G.lret dX12_appends_21 rfl h
  · intro j2 Jj2 h
    refine G.if_ne 8 dX12_appends_1 (by decide) h (fun c3 h => ?_) (fun c3 h => ?_)
    · refine G.lload_n dX12_appends_4 rfl rfl ?_
      refine G.goto 21 dX12_appends_5 (by decide) ?_
      refine G.sub (lv' := []) [] rfl ?_
      exact Jj2 _ h
    · refine G.ldc2 (27 : Int64) dX12_appends_8 kcX12_232 ?_
      refine G.lload_n dX12_appends_11 rfl rfl ?_
      refine G.lmul dX12_appends_12 ?_
      refine G.iload_n dX12_appends_13 rfl rfl ?_
      refine G.bipush (97 : Int32) dX12_appends_14 kb_97 ?_
      refine G.isub dX12_appends_16 ?_
      refine G.iconst (1 : Int32) dX12_appends_17 ki_1 ?_
      refine G.iadd dX12_appends_18 ?_
      refine G.i2l dX12_appends_19 ?_
      refine G.ladd dX12_appends_20 ?_
      refine G.sub (lv' := []) [] rfl ?_
      exact Jj2 _ h
-- OnlyUpwardModel.word(IIIIIII)J
set_option maxRecDepth 100000 in
set_option maxHeartbeats 4000000 in
def F_X12_word (n : Nat) (M : AM) (a0 : Int32) (a1 : Int32) (a2 : Int32) (a3 : Int32) (a4 : Int32) (a5 : Int32) (a6 : Int32) : Option Int64 :=
  (F_X12_appends n M (0 : Int64) a0).bind fun v1 => (F_X12_appends n M v1 a1).bind fun v2 => (F_X12_appends n M v2 a2).bind fun v3 => (F_X12_appends n M v3 a3).bind fun v4 => (F_X12_appends n M v4 a4).bind fun v5 => (F_X12_appends n M v5 a5).bind fun v6 => (F_X12_appends n M v6 a6).bind fun v7 => some v7
set_option maxRecDepth 100000 in
set_option maxHeartbeats 4000000 in
theorem C_X12_word {n : Nat} {M : AM} {a0 : Int32} {a1 : Int32} {a2 : Int32} {a3 : Int32} {a4 : Int32} {a5 : Int32} {a6 : Int32} {o : Int64} (h : F_X12_word n M a0 a1 a2 a3 a4 a5 a6 = some o) : Cn yX12_word cX12_word 7 (some .long) 1 [.int a0, .int a1, .int a2, .int a3, .int a4, .int a5, .int a6] M (some (.long o)) M := by
  unfold F_X12_word at h
  refine Cn.of rfl (Nat.le_of_ble_eq_true rfl) ?_
  show G yX12_word cX12_word 7 (some .long) 1 0 [(0, .int a0), (1, .int a1), (2, .int a2), (3, .int a3), (4, .int a4), (5, .int a5), (6, .int a6)] [] M (some (.long o)) M
  refine G.lconst (0 : Int64) dX12_word_0 rfl ?_
  refine G.iload_n dX12_word_1 rfl rfl ?_
  refine G.callSl [.long (0 : Int64), .int a0] [] dX12_word_2 lkX12_234 okX12_appends (fun v hv => C_X12_appends hv) (Nat.le_of_ble_eq_true rfl) rfl rfl (Nat.le_of_ble_eq_true rfl) h (fun v1 h => ?_)
  refine G.iload_n dX12_word_5 rfl rfl ?_
  refine G.callSl [.long v1, .int a1] [] dX12_word_6 lkX12_234 okX12_appends (fun v hv => C_X12_appends hv) (Nat.le_of_ble_eq_true rfl) rfl rfl (Nat.le_of_ble_eq_true rfl) h (fun v2 h => ?_)
  refine G.iload_n dX12_word_9 rfl rfl ?_
  refine G.callSl [.long v2, .int a2] [] dX12_word_10 lkX12_234 okX12_appends (fun v hv => C_X12_appends hv) (Nat.le_of_ble_eq_true rfl) rfl rfl (Nat.le_of_ble_eq_true rfl) h (fun v3 h => ?_)
  refine G.iload_n dX12_word_13 rfl rfl ?_
  refine G.callSl [.long v3, .int a3] [] dX12_word_14 lkX12_234 okX12_appends (fun v hv => C_X12_appends hv) (Nat.le_of_ble_eq_true rfl) rfl rfl (Nat.le_of_ble_eq_true rfl) h (fun v4 h => ?_)
  refine G.iload dX12_word_17 rfl ?_
  refine G.callSl [.long v4, .int a4] [] dX12_word_19 lkX12_234 okX12_appends (fun v hv => C_X12_appends hv) (Nat.le_of_ble_eq_true rfl) rfl rfl (Nat.le_of_ble_eq_true rfl) h (fun v5 h => ?_)
  refine G.iload dX12_word_22 rfl ?_
  refine G.callSl [.long v5, .int a5] [] dX12_word_24 lkX12_234 okX12_appends (fun v hv => C_X12_appends hv) (Nat.le_of_ble_eq_true rfl) rfl rfl (Nat.le_of_ble_eq_true rfl) h (fun v6 h => ?_)
  refine G.iload dX12_word_27 rfl ?_
  refine G.callSl [.long v6, .int a6] [] dX12_word_29 lkX12_234 okX12_appends (fun v hv => C_X12_appends hv) (Nat.le_of_ble_eq_true rfl) rfl rfl (Nat.le_of_ble_eq_true rfl) h (fun v7 h => ?_)
  exact G.lret dX12_word_32 rfl h
-- OnlyUpwardModel.<init>()V
set_option maxRecDepth 100000 in
set_option maxHeartbeats 4000000 in
def F_X12_init (n : Nat) (M : AM) (a0 : Nat) : Option AM :=
  (nAr 1 M (2000 : Int32)).bind fun M1 => (pR 12 1 M1 a0 (mK M).length).bind fun M2 => (nAr 1 M2 (2000 : Int32)).bind fun M3 => (pR 12 3 M3 a0 (mK M2).length).bind fun M4 => (nAr 0 M4 (403 : Int32)).bind fun M5 => (pR 12 5 M5 a0 (mK M4).length).bind fun M6 => (nAr 0 M6 (403 : Int32)).bind fun M7 => (pR 12 6 M7 a0 (mK M6).length).bind fun M8 => (nAr 0 M8 (403 : Int32)).bind fun M9 => (pR 12 7 M9 a0 (mK M8).length).bind fun M10 => (nAr 2 M10 (403 : Int32)).bind fun M11 => (pR 12 8 M11 a0 (mK M10).length).bind fun M12 => (nAr 2 M12 (20 : Int32)).bind fun M13 => (pR 12 9 M13 a0 (mK M12).length).bind fun M14 => (pI 12 17 M14 a0 (-1 : Int32)).bind fun M15 => (nAr 2 M15 (32 : Int32)).bind fun M16 => (pR 12 21 M16 a0 (mK M15).length).bind fun M17 => (nAr 0 M17 (32 : Int32)).bind fun M18 => (pR 12 22 M18 a0 (mK M17).length).bind fun M19 => (nAr 0 M19 (32 : Int32)).bind fun M20 => (pR 12 23 M20 a0 (mK M19).length).bind fun M21 => (nAr 0 M21 (16 : Int32)).bind fun M22 => (pR 12 24 M22 a0 (mK M21).length).bind fun M23 => (nAr 0 M23 (2 : Int32)).bind fun M24 => (pR 12 25 M24 a0 (mK M23).length).bind fun M25 => (nAr 0 M25 (20 : Int32)).bind fun M26 => (pR 12 26 M26 a0 (mK M25).length).bind fun M27 => (nAr 0 M27 (20 : Int32)).bind fun M28 => (pR 12 27 M28 a0 (mK M27).length).bind fun M29 => (nAr 0 M29 (12 : Int32)).bind fun M30 => (pR 12 28 M30 a0 (mK M29).length).bind fun M31 => (nAr 0 M31 (16 : Int32)).bind fun M32 => (pR 12 29 M32 a0 (mK M31).length).bind fun M33 => (nAr 0 M33 (16 : Int32)).bind fun M34 => (pR 12 30 M34 a0 (mK M33).length).bind fun M35 => (nAr 0 M35 (40 : Int32)).bind fun M36 => (pR 12 31 M36 a0 (mK M35).length).bind fun M37 => (nAr 0 M37 (40 : Int32)).bind fun M38 => (pR 12 32 M38 a0 (mK M37).length).bind fun M39 => (nAr 0 M39 (40 : Int32)).bind fun M40 => (pR 12 33 M40 a0 (mK M39).length).bind fun M41 => (nAr 0 M41 (40 : Int32)).bind fun M42 => (pR 12 34 M42 a0 (mK M41).length).bind fun M43 => (nAr 0 M43 (24 : Int32)).bind fun M44 => (pR 12 35 M44 a0 (mK M43).length).bind fun M45 => (nAr 0 M45 (24 : Int32)).bind fun M46 => (pR 12 36 M46 a0 (mK M45).length).bind fun M47 => (nAr 0 M47 (24 : Int32)).bind fun M48 => (pR 12 37 M48 a0 (mK M47).length).bind fun M49 => (nAr 0 M49 (24 : Int32)).bind fun M50 => (pR 12 38 M50 a0 (mK M49).length).bind fun M51 => (nAr 0 M51 (24 : Int32)).bind fun M52 => (pR 12 39 M52 a0 (mK M51).length).bind fun M53 => (nAr 0 M53 (12 : Int32)).bind fun M54 => (pR 12 40 M54 a0 (mK M53).length).bind fun M55 => (nAr 0 M55 (12 : Int32)).bind fun M56 => (pR 12 41 M56 a0 (mK M55).length).bind fun M57 => (nAr 0 M57 (8 : Int32)).bind fun M58 => (pR 12 42 M58 a0 (mK M57).length).bind fun M59 => (nAr 0 M59 (4 : Int32)).bind fun M60 => (pR 12 43 M60 a0 (mK M59).length).bind fun M61 => (nAr 0 M61 (16 : Int32)).bind fun M62 => (pR 12 44 M62 a0 (mK M61).length).bind fun M63 => (nAr 0 M63 (16 : Int32)).bind fun M64 => (pR 12 45 M64 a0 (mK M63).length).bind fun M65 => (nAr 0 M65 (300 : Int32)).bind fun M66 => (pR 12 47 M66 a0 (mK M65).length).bind fun M67 => (nAr 3 M67 (300 : Int32)).bind fun M68 => (pR 12 48 M68 a0 (mK M67).length).bind fun M69 => (nAr 3 M69 (300 : Int32)).bind fun M70 => (pR 12 49 M70 a0 (mK M69).length).bind fun M71 => (nAr 0 M71 (300 : Int32)).bind fun M72 => (pR 12 50 M72 a0 (mK M71).length).bind fun M73 => (nAr 0 M73 (300 : Int32)).bind fun M74 => (pR 12 51 M74 a0 (mK M73).length).bind fun M75 => (nAr 0 M75 (300 : Int32)).bind fun M76 => (pR 12 52 M76 a0 (mK M75).length).bind fun M77 => (nAr 0 M77 (840 : Int32)).bind fun M78 => (pR 12 54 M78 a0 (mK M77).length).bind fun M79 => (nAr 0 M79 (840 : Int32)).bind fun M80 => (pR 12 55 M80 a0 (mK M79).length).bind fun M81 => (nAr 0 M81 (64 : Int32)).bind fun M82 => (pR 12 56 M82 a0 (mK M81).length).bind fun M83 => (nAr 0 M83 (4 : Int32)).bind fun M84 => (pR 12 58 M84 a0 (mK M83).length).bind fun M85 => (nAr 0 M85 (400 : Int32)).bind fun M86 => (pR 12 59 M86 a0 (mK M85).length).bind fun M87 => (nAr 0 M87 (30 : Int32)).bind fun M88 => (pR 12 63 M88 a0 (mK M87).length).bind fun M89 => (nAr 0 M89 (30 : Int32)).bind fun M90 => (pR 12 64 M90 a0 (mK M89).length).bind fun M91 => (nAr 0 M91 (30 : Int32)).bind fun M92 => (pR 12 65 M92 a0 (mK M91).length).bind fun M93 => (nAr 0 M93 (30 : Int32)).bind fun M94 => (pR 12 66 M94 a0 (mK M93).length).bind fun M95 => (nAr 0 M95 (30 : Int32)).bind fun M96 => (pR 12 67 M96 a0 (mK M95).length).bind fun M97 => (nAr 0 M97 (250 : Int32)).bind fun M98 => (pR 12 68 M98 a0 (mK M97).length).bind fun M99 => (nAr 0 M99 (30 : Int32)).bind fun M100 => (pR 12 69 M100 a0 (mK M99).length).bind fun M101 => (nAr 0 M101 (600 : Int32)).bind fun M102 => (pR 12 70 M102 a0 (mK M101).length).bind fun M103 => (nAr 0 M103 (6 : Int32)).bind fun M104 => (pR 12 71 M104 a0 (mK M103).length).bind fun M105 => (pI 12 73 M105 a0 (-1 : Int32)).bind fun M106 => (nAr 0 M106 (25 : Int32)).bind fun M107 => (pR 12 74 M107 a0 (mK M106).length).bind fun M108 => (nAr 0 M108 (25600 : Int32)).bind fun M109 => (pR 12 75 M109 a0 (mK M108).length).bind fun M110 => (nAr 0 M110 (160 : Int32)).bind fun M111 => (pR 12 77 M111 a0 (mK M110).length).bind fun M112 => (nAr 0 M112 (160 : Int32)).bind fun M113 => (pR 12 78 M113 a0 (mK M112).length).bind fun M114 => (nAr 0 M114 (160 : Int32)).bind fun M115 => (pR 12 79 M115 a0 (mK M114).length).bind fun M116 => (nAr 0 M116 (160 : Int32)).bind fun M117 => (pR 12 80 M117 a0 (mK M116).length).bind fun M118 => (nAr 0 M118 (10 : Int32)).bind fun M119 => (pR 12 81 M119 a0 (mK M118).length).bind fun M120 => (nAr 0 M120 (3 : Int32)).bind fun M121 => (wrI M121 (mK M120).length (0 : Int32) (-1 : Int32)).bind fun M122 => (wrI M122 (mK M120).length (1 : Int32) (-1 : Int32)).bind fun M123 => (wrI M123 (mK M120).length (2 : Int32) (-1 : Int32)).bind fun M124 => (pR 12 88 M124 a0 (mK M120).length).bind fun M125 => (nAr 0 M125 (90 : Int32)).bind fun M126 => (pR 12 89 M126 a0 (mK M125).length).bind fun M127 => (nAr 0 M127 (90 : Int32)).bind fun M128 => (pR 12 90 M128 a0 (mK M127).length).bind fun M129 => (nAr 0 M129 (90 : Int32)).bind fun M130 => (pR 12 91 M130 a0 (mK M129).length).bind fun M131 => (nAr 0 M131 (90 : Int32)).bind fun M132 => (pR 12 92 M132 a0 (mK M131).length).bind fun M133 => (nAr 0 M133 (90 : Int32)).bind fun M134 => (pR 12 93 M134 a0 (mK M133).length).bind fun M135 => (gR 12 9 M135 a0).bind fun v136 => (F_X12_word n M135 (112 : Int32) (108 : Int32) (97 : Int32) (99 : Int32) (101 : Int32) (0 : Int32) (0 : Int32)).bind fun v137 => (wrL M135 v136 (0 : Int32) v137).bind fun M138 => (gR 12 9 M138 a0).bind fun v139 => (F_X12_word n M138 (112 : Int32) (101 : Int32) (114 : Int32) (115 : Int32) (111 : Int32) (110 : Int32) (0 : Int32)).bind fun v140 => (wrL M138 v139 (1 : Int32) v140).bind fun M141 => (gR 12 9 M141 a0).bind fun v142 => (F_X12_word n M141 (98 : Int32) (105 : Int32) (114 : Int32) (116 : Int32) (104 : Int32) (0 : Int32) (0 : Int32)).bind fun v143 => (wrL M141 v142 (2 : Int32) v143).bind fun M144 => (gR 12 9 M144 a0).bind fun v145 => (F_X12_word n M144 (116 : Int32) (104 : Int32) (105 : Int32) (110 : Int32) (103 : Int32) (0 : Int32) (0 : Int32)).bind fun v146 => (wrL M144 v145 (3 : Int32) v146).bind fun M147 => (gR 12 9 M147 a0).bind fun v148 => (F_X12_word n M147 (116 : Int32) (104 : Int32) (105 : Int32) (110 : Int32) (0 : Int32) (0 : Int32) (0 : Int32)).bind fun v149 => (wrL M147 v148 (4 : Int32) v149).bind fun M150 => (gR 12 9 M150 a0).bind fun v151 => (F_X12_word n M150 (97 : Int32) (116 : Int32) (0 : Int32) (0 : Int32) (0 : Int32) (0 : Int32) (0 : Int32)).bind fun v152 => (wrL M150 v151 (5 : Int32) v152).bind fun M153 => (gR 12 9 M153 a0).bind fun v154 => (F_X12_word n M153 (107 : Int32) (110 : Int32) (111 : Int32) (119 : Int32) (115 : Int32) (0 : Int32) (0 : Int32)).bind fun v155 => (wrL M153 v154 (6 : Int32) v155).bind fun M156 => (gR 12 9 M156 a0).bind fun v157 => (F_X12_word n M156 (109 : Int32) (117 : Int32) (115 : Int32) (116 : Int32) (0 : Int32) (0 : Int32) (0 : Int32)).bind fun v158 => (wrL M156 v157 (7 : Int32) v158).bind fun M159 => (gR 12 9 M159 a0).bind fun v160 => (F_X12_word n M159 (97 : Int32) (99 : Int32) (116 : Int32) (0 : Int32) (0 : Int32) (0 : Int32) (0 : Int32)).bind fun v161 => (wrL M159 v160 (8 : Int32) v161).bind fun M162 => (gR 12 9 M162 a0).bind fun v163 => (F_X12_word n M162 (116 : Int32) (97 : Int32) (115 : Int32) (107 : Int32) (0 : Int32) (0 : Int32) (0 : Int32)).bind fun v164 => (wrL M162 v163 (9 : Int32) v164).bind fun M165 => (gR 12 9 M165 a0).bind fun v166 => (F_X12_word n M165 (115 : Int32) (97 : Int32) (121 : Int32) (0 : Int32) (0 : Int32) (0 : Int32) (0 : Int32)).bind fun v167 => (wrL M165 v166 (10 : Int32) v167).bind fun M168 => (gR 12 9 M168 a0).bind fun v169 => (F_X12_word n M168 (97 : Int32) (115 : Int32) (107 : Int32) (0 : Int32) (0 : Int32) (0 : Int32) (0 : Int32)).bind fun v170 => (wrL M168 v169 (11 : Int32) v170).bind fun M171 => (gR 12 9 M171 a0).bind fun v172 => (F_X12_word n M171 (105 : Int32) (102 : Int32) (0 : Int32) (0 : Int32) (0 : Int32) (0 : Int32) (0 : Int32)).bind fun v173 => (wrL M171 v172 (12 : Int32) v173).bind fun M174 => (gR 12 9 M174 a0).bind fun v175 => (F_X12_word n M174 (111 : Int32) (114 : Int32) (0 : Int32) (0 : Int32) (0 : Int32) (0 : Int32) (0 : Int32)).bind fun v176 => (wrL M174 v175 (13 : Int32) v176).bind fun M177 => (gR 12 9 M177 a0).bind fun v178 => (F_X12_word n M177 (97 : Int32) (110 : Int32) (100 : Int32) (0 : Int32) (0 : Int32) (0 : Int32) (0 : Int32)).bind fun v179 => (wrL M177 v178 (14 : Int32) v179).bind fun M180 => (gR 12 9 M180 a0).bind fun v181 => (F_X12_word n M180 (110 : Int32) (111 : Int32) (116 : Int32) (0 : Int32) (0 : Int32) (0 : Int32) (0 : Int32)).bind fun v182 => (wrL M180 v181 (15 : Int32) v182).bind fun M183 => (gR 12 9 M183 a0).bind fun v184 => (F_X12_word n M183 (109 : Int32) (105 : Int32) (110 : Int32) (101 : Int32) (0 : Int32) (0 : Int32) (0 : Int32)).bind fun v185 => (wrL M183 v184 (16 : Int32) v185).bind fun M186 => (gR 12 9 M186 a0).bind fun v187 => (F_X12_word n M186 (121 : Int32) (111 : Int32) (117 : Int32) (114 : Int32) (115 : Int32) (0 : Int32) (0 : Int32)).bind fun v188 => (wrL M186 v187 (17 : Int32) v188).bind fun M189 => (gR 12 9 M189 a0).bind fun v190 => (F_X12_word n M189 (104 : Int32) (111 : Int32) (117 : Int32) (114 : Int32) (0 : Int32) (0 : Int32) (0 : Int32)).bind fun v191 => (wrL M189 v190 (18 : Int32) v191).bind fun M192 => (gR 12 9 M192 a0).bind fun v193 => (F_X12_word n M192 (99 : Int32) (114 : Int32) (111 : Int32) (119 : Int32) (100 : Int32) (0 : Int32) (0 : Int32)).bind fun v194 => (wrL M192 v193 (19 : Int32) v194).bind fun M195 => some M195
set_option maxRecDepth 100000 in
set_option maxHeartbeats 4000000 in
theorem C_X12_init {n : Nat} {M : AM} {a0 : Nat} {o : AM} (h : F_X12_init n M a0 = some o) : Cn yX12_init cX12_init 1 none 2 [.ref a0] M none o := by
  unfold F_X12_init at h
  refine Cn.of rfl (Nat.le_of_ble_eq_true rfl) ?_
  show G yX12_init cX12_init 1 none 2 0 [(0, .ref a0)] [] M none o
  refine G.aload_n dX12_init_0 rfl rfl ?_
  refine G.objInit dX12_init_1 loX12_7 io_1 io_2 (Nat.le_of_ble_eq_true rfl) (Nat.le_of_ble_eq_true rfl) ?_
  refine G.aload_n dX12_init_4 rfl rfl ?_
  refine G.sipush (2000 : Int32) dX12_init_5 ks_2000 ?_
  refine G.newa 1 dX12_init_8 (by decide) arc_1 h (fun M1 h => ?_)
  refine G.putRF dX12_init_10 cok12 (by decide) flX12_13 rfl rfl rfl fr12_1 h (fun M2 h => ?_)
  refine G.aload_n dX12_init_13 rfl rfl ?_
  refine G.sipush (2000 : Int32) dX12_init_14 ks_2000 ?_
  refine G.newa 1 dX12_init_17 (by decide) arc_1 h (fun M3 h => ?_)
  refine G.putRF dX12_init_19 cok12 (by decide) flX12_17 rfl rfl rfl fr12_3 h (fun M4 h => ?_)
  refine G.aload_n dX12_init_22 rfl rfl ?_
  refine G.sipush (403 : Int32) dX12_init_23 ks_403 ?_
  refine G.newa 0 dX12_init_26 (by decide) arc_0 h (fun M5 h => ?_)
  refine G.putRF dX12_init_28 cok12 (by decide) flX12_20 rfl rfl rfl fr12_5 h (fun M6 h => ?_)
  refine G.aload_n dX12_init_31 rfl rfl ?_
  refine G.sipush (403 : Int32) dX12_init_32 ks_403 ?_
  refine G.newa 0 dX12_init_35 (by decide) arc_0 h (fun M7 h => ?_)
  refine G.putRF dX12_init_37 cok12 (by decide) flX12_24 rfl rfl rfl fr12_6 h (fun M8 h => ?_)
  refine G.aload_n dX12_init_40 rfl rfl ?_
  refine G.sipush (403 : Int32) dX12_init_41 ks_403 ?_
  refine G.newa 0 dX12_init_44 (by decide) arc_0 h (fun M9 h => ?_)
  refine G.putRF dX12_init_46 cok12 (by decide) flX12_27 rfl rfl rfl fr12_7 h (fun M10 h => ?_)
  refine G.aload_n dX12_init_49 rfl rfl ?_
  refine G.sipush (403 : Int32) dX12_init_50 ks_403 ?_
  refine G.newa 2 dX12_init_53 (by decide) arc_2 h (fun M11 h => ?_)
  refine G.putRF dX12_init_55 cok12 (by decide) flX12_30 rfl rfl rfl fr12_8 h (fun M12 h => ?_)
  refine G.aload_n dX12_init_58 rfl rfl ?_
  refine G.bipush (20 : Int32) dX12_init_59 kb_20 ?_
  refine G.newa 2 dX12_init_61 (by decide) arc_2 h (fun M13 h => ?_)
  refine G.putRF dX12_init_63 cok12 (by decide) flX12_34 rfl rfl rfl fr12_9 h (fun M14 h => ?_)
  refine G.aload_n dX12_init_66 rfl rfl ?_
  refine G.iconst (-1 : Int32) dX12_init_67 ki_m1 ?_
  refine G.putI dX12_init_68 fkX12_37 nf12_17 ft12_17 h (fun M15 h => ?_)
  refine G.aload_n dX12_init_71 rfl rfl ?_
  refine G.bipush (32 : Int32) dX12_init_72 kb_32 ?_
  refine G.newa 2 dX12_init_74 (by decide) arc_2 h (fun M16 h => ?_)
  refine G.putRF dX12_init_76 cok12 (by decide) flX12_40 rfl rfl rfl fr12_21 h (fun M17 h => ?_)
  refine G.aload_n dX12_init_79 rfl rfl ?_
  refine G.bipush (32 : Int32) dX12_init_80 kb_32 ?_
  refine G.newa 0 dX12_init_82 (by decide) arc_0 h (fun M18 h => ?_)
  refine G.putRF dX12_init_84 cok12 (by decide) flX12_43 rfl rfl rfl fr12_22 h (fun M19 h => ?_)
  refine G.aload_n dX12_init_87 rfl rfl ?_
  refine G.bipush (32 : Int32) dX12_init_88 kb_32 ?_
  refine G.newa 0 dX12_init_90 (by decide) arc_0 h (fun M20 h => ?_)
  refine G.putRF dX12_init_92 cok12 (by decide) flX12_46 rfl rfl rfl fr12_23 h (fun M21 h => ?_)
  refine G.aload_n dX12_init_95 rfl rfl ?_
  refine G.bipush (16 : Int32) dX12_init_96 kb_16 ?_
  refine G.newa 0 dX12_init_98 (by decide) arc_0 h (fun M22 h => ?_)
  refine G.putRF dX12_init_100 cok12 (by decide) flX12_49 rfl rfl rfl fr12_24 h (fun M23 h => ?_)
  refine G.aload_n dX12_init_103 rfl rfl ?_
  refine G.iconst (2 : Int32) dX12_init_104 ki_2 ?_
  refine G.newa 0 dX12_init_105 (by decide) arc_0 h (fun M24 h => ?_)
  refine G.putRF dX12_init_107 cok12 (by decide) flX12_52 rfl rfl rfl fr12_25 h (fun M25 h => ?_)
  refine G.aload_n dX12_init_110 rfl rfl ?_
  refine G.bipush (20 : Int32) dX12_init_111 kb_20 ?_
  refine G.newa 0 dX12_init_113 (by decide) arc_0 h (fun M26 h => ?_)
  refine G.putRF dX12_init_115 cok12 (by decide) flX12_55 rfl rfl rfl fr12_26 h (fun M27 h => ?_)
  refine G.aload_n dX12_init_118 rfl rfl ?_
  refine G.bipush (20 : Int32) dX12_init_119 kb_20 ?_
  refine G.newa 0 dX12_init_121 (by decide) arc_0 h (fun M28 h => ?_)
  refine G.putRF dX12_init_123 cok12 (by decide) flX12_58 rfl rfl rfl fr12_27 h (fun M29 h => ?_)
  refine G.aload_n dX12_init_126 rfl rfl ?_
  refine G.bipush (12 : Int32) dX12_init_127 kb_12 ?_
  refine G.newa 0 dX12_init_129 (by decide) arc_0 h (fun M30 h => ?_)
  refine G.putRF dX12_init_131 cok12 (by decide) flX12_61 rfl rfl rfl fr12_28 h (fun M31 h => ?_)
  refine G.aload_n dX12_init_134 rfl rfl ?_
  refine G.bipush (16 : Int32) dX12_init_135 kb_16 ?_
  refine G.newa 0 dX12_init_137 (by decide) arc_0 h (fun M32 h => ?_)
  refine G.putRF dX12_init_139 cok12 (by decide) flX12_64 rfl rfl rfl fr12_29 h (fun M33 h => ?_)
  refine G.aload_n dX12_init_142 rfl rfl ?_
  refine G.bipush (16 : Int32) dX12_init_143 kb_16 ?_
  refine G.newa 0 dX12_init_145 (by decide) arc_0 h (fun M34 h => ?_)
  refine G.putRF dX12_init_147 cok12 (by decide) flX12_67 rfl rfl rfl fr12_30 h (fun M35 h => ?_)
  refine G.aload_n dX12_init_150 rfl rfl ?_
  refine G.bipush (40 : Int32) dX12_init_151 kb_40 ?_
  refine G.newa 0 dX12_init_153 (by decide) arc_0 h (fun M36 h => ?_)
  refine G.putRF dX12_init_155 cok12 (by decide) flX12_70 rfl rfl rfl fr12_31 h (fun M37 h => ?_)
  refine G.aload_n dX12_init_158 rfl rfl ?_
  refine G.bipush (40 : Int32) dX12_init_159 kb_40 ?_
  refine G.newa 0 dX12_init_161 (by decide) arc_0 h (fun M38 h => ?_)
  refine G.putRF dX12_init_163 cok12 (by decide) flX12_73 rfl rfl rfl fr12_32 h (fun M39 h => ?_)
  refine G.aload_n dX12_init_166 rfl rfl ?_
  refine G.bipush (40 : Int32) dX12_init_167 kb_40 ?_
  refine G.newa 0 dX12_init_169 (by decide) arc_0 h (fun M40 h => ?_)
  refine G.putRF dX12_init_171 cok12 (by decide) flX12_76 rfl rfl rfl fr12_33 h (fun M41 h => ?_)
  refine G.aload_n dX12_init_174 rfl rfl ?_
  refine G.bipush (40 : Int32) dX12_init_175 kb_40 ?_
  refine G.newa 0 dX12_init_177 (by decide) arc_0 h (fun M42 h => ?_)
  refine G.putRF dX12_init_179 cok12 (by decide) flX12_79 rfl rfl rfl fr12_34 h (fun M43 h => ?_)
  refine G.aload_n dX12_init_182 rfl rfl ?_
  refine G.bipush (24 : Int32) dX12_init_183 kb_24 ?_
  refine G.newa 0 dX12_init_185 (by decide) arc_0 h (fun M44 h => ?_)
  refine G.putRF dX12_init_187 cok12 (by decide) flX12_82 rfl rfl rfl fr12_35 h (fun M45 h => ?_)
  refine G.aload_n dX12_init_190 rfl rfl ?_
  refine G.bipush (24 : Int32) dX12_init_191 kb_24 ?_
  refine G.newa 0 dX12_init_193 (by decide) arc_0 h (fun M46 h => ?_)
  refine G.putRF dX12_init_195 cok12 (by decide) flX12_85 rfl rfl rfl fr12_36 h (fun M47 h => ?_)
  refine G.aload_n dX12_init_198 rfl rfl ?_
  refine G.bipush (24 : Int32) dX12_init_199 kb_24 ?_
  refine G.newa 0 dX12_init_201 (by decide) arc_0 h (fun M48 h => ?_)
  refine G.putRF dX12_init_203 cok12 (by decide) flX12_88 rfl rfl rfl fr12_37 h (fun M49 h => ?_)
  refine G.aload_n dX12_init_206 rfl rfl ?_
  refine G.bipush (24 : Int32) dX12_init_207 kb_24 ?_
  refine G.newa 0 dX12_init_209 (by decide) arc_0 h (fun M50 h => ?_)
  refine G.putRF dX12_init_211 cok12 (by decide) flX12_91 rfl rfl rfl fr12_38 h (fun M51 h => ?_)
  refine G.aload_n dX12_init_214 rfl rfl ?_
  refine G.bipush (24 : Int32) dX12_init_215 kb_24 ?_
  refine G.newa 0 dX12_init_217 (by decide) arc_0 h (fun M52 h => ?_)
  refine G.putRF dX12_init_219 cok12 (by decide) flX12_94 rfl rfl rfl fr12_39 h (fun M53 h => ?_)
  refine G.aload_n dX12_init_222 rfl rfl ?_
  refine G.bipush (12 : Int32) dX12_init_223 kb_12 ?_
  refine G.newa 0 dX12_init_225 (by decide) arc_0 h (fun M54 h => ?_)
  refine G.putRF dX12_init_227 cok12 (by decide) flX12_97 rfl rfl rfl fr12_40 h (fun M55 h => ?_)
  refine G.aload_n dX12_init_230 rfl rfl ?_
  refine G.bipush (12 : Int32) dX12_init_231 kb_12 ?_
  refine G.newa 0 dX12_init_233 (by decide) arc_0 h (fun M56 h => ?_)
  refine G.putRF dX12_init_235 cok12 (by decide) flX12_100 rfl rfl rfl fr12_41 h (fun M57 h => ?_)
  refine G.aload_n dX12_init_238 rfl rfl ?_
  refine G.bipush (8 : Int32) dX12_init_239 kb_8 ?_
  refine G.newa 0 dX12_init_241 (by decide) arc_0 h (fun M58 h => ?_)
  refine G.putRF dX12_init_243 cok12 (by decide) flX12_103 rfl rfl rfl fr12_42 h (fun M59 h => ?_)
  refine G.aload_n dX12_init_246 rfl rfl ?_
  refine G.iconst (4 : Int32) dX12_init_247 ki_4 ?_
  refine G.newa 0 dX12_init_248 (by decide) arc_0 h (fun M60 h => ?_)
  refine G.putRF dX12_init_250 cok12 (by decide) flX12_106 rfl rfl rfl fr12_43 h (fun M61 h => ?_)
  refine G.aload_n dX12_init_253 rfl rfl ?_
  refine G.bipush (16 : Int32) dX12_init_254 kb_16 ?_
  refine G.newa 0 dX12_init_256 (by decide) arc_0 h (fun M62 h => ?_)
  refine G.putRF dX12_init_258 cok12 (by decide) flX12_109 rfl rfl rfl fr12_44 h (fun M63 h => ?_)
  refine G.aload_n dX12_init_261 rfl rfl ?_
  refine G.bipush (16 : Int32) dX12_init_262 kb_16 ?_
  refine G.newa 0 dX12_init_264 (by decide) arc_0 h (fun M64 h => ?_)
  refine G.putRF dX12_init_266 cok12 (by decide) flX12_112 rfl rfl rfl fr12_45 h (fun M65 h => ?_)
  refine G.aload_n dX12_init_269 rfl rfl ?_
  refine G.sipush (300 : Int32) dX12_init_270 ks_300 ?_
  refine G.newa 0 dX12_init_273 (by decide) arc_0 h (fun M66 h => ?_)
  refine G.putRF dX12_init_275 cok12 (by decide) flX12_115 rfl rfl rfl fr12_47 h (fun M67 h => ?_)
  refine G.aload_n dX12_init_278 rfl rfl ?_
  refine G.sipush (300 : Int32) dX12_init_279 ks_300 ?_
  refine G.newa 3 dX12_init_282 (by decide) arc_3 h (fun M68 h => ?_)
  refine G.putRF dX12_init_284 cok12 (by decide) flX12_118 rfl rfl rfl fr12_48 h (fun M69 h => ?_)
  refine G.aload_n dX12_init_287 rfl rfl ?_
  refine G.sipush (300 : Int32) dX12_init_288 ks_300 ?_
  refine G.newa 3 dX12_init_291 (by decide) arc_3 h (fun M70 h => ?_)
  refine G.putRF dX12_init_293 cok12 (by decide) flX12_122 rfl rfl rfl fr12_49 h (fun M71 h => ?_)
  refine G.aload_n dX12_init_296 rfl rfl ?_
  refine G.sipush (300 : Int32) dX12_init_297 ks_300 ?_
  refine G.newa 0 dX12_init_300 (by decide) arc_0 h (fun M72 h => ?_)
  refine G.putRF dX12_init_302 cok12 (by decide) flX12_125 rfl rfl rfl fr12_50 h (fun M73 h => ?_)
  refine G.aload_n dX12_init_305 rfl rfl ?_
  refine G.sipush (300 : Int32) dX12_init_306 ks_300 ?_
  refine G.newa 0 dX12_init_309 (by decide) arc_0 h (fun M74 h => ?_)
  refine G.putRF dX12_init_311 cok12 (by decide) flX12_128 rfl rfl rfl fr12_51 h (fun M75 h => ?_)
  refine G.aload_n dX12_init_314 rfl rfl ?_
  refine G.sipush (300 : Int32) dX12_init_315 ks_300 ?_
  refine G.newa 0 dX12_init_318 (by decide) arc_0 h (fun M76 h => ?_)
  refine G.putRF dX12_init_320 cok12 (by decide) flX12_131 rfl rfl rfl fr12_52 h (fun M77 h => ?_)
  refine G.aload_n dX12_init_323 rfl rfl ?_
  refine G.sipush (840 : Int32) dX12_init_324 ks_840 ?_
  refine G.newa 0 dX12_init_327 (by decide) arc_0 h (fun M78 h => ?_)
  refine G.putRF dX12_init_329 cok12 (by decide) flX12_134 rfl rfl rfl fr12_54 h (fun M79 h => ?_)
  refine G.aload_n dX12_init_332 rfl rfl ?_
  refine G.sipush (840 : Int32) dX12_init_333 ks_840 ?_
  refine G.newa 0 dX12_init_336 (by decide) arc_0 h (fun M80 h => ?_)
  refine G.putRF dX12_init_338 cok12 (by decide) flX12_137 rfl rfl rfl fr12_55 h (fun M81 h => ?_)
  refine G.aload_n dX12_init_341 rfl rfl ?_
  refine G.bipush (64 : Int32) dX12_init_342 kb_64 ?_
  refine G.newa 0 dX12_init_344 (by decide) arc_0 h (fun M82 h => ?_)
  refine G.putRF dX12_init_346 cok12 (by decide) flX12_140 rfl rfl rfl fr12_56 h (fun M83 h => ?_)
  refine G.aload_n dX12_init_349 rfl rfl ?_
  refine G.iconst (4 : Int32) dX12_init_350 ki_4 ?_
  refine G.newa 0 dX12_init_351 (by decide) arc_0 h (fun M84 h => ?_)
  refine G.putRF dX12_init_353 cok12 (by decide) flX12_143 rfl rfl rfl fr12_58 h (fun M85 h => ?_)
  refine G.aload_n dX12_init_356 rfl rfl ?_
  refine G.sipush (400 : Int32) dX12_init_357 ks_400 ?_
  refine G.newa 0 dX12_init_360 (by decide) arc_0 h (fun M86 h => ?_)
  refine G.putRF dX12_init_362 cok12 (by decide) flX12_146 rfl rfl rfl fr12_59 h (fun M87 h => ?_)
  refine G.aload_n dX12_init_365 rfl rfl ?_
  refine G.bipush (30 : Int32) dX12_init_366 kb_30 ?_
  refine G.newa 0 dX12_init_368 (by decide) arc_0 h (fun M88 h => ?_)
  refine G.putRF dX12_init_370 cok12 (by decide) flX12_149 rfl rfl rfl fr12_63 h (fun M89 h => ?_)
  refine G.aload_n dX12_init_373 rfl rfl ?_
  refine G.bipush (30 : Int32) dX12_init_374 kb_30 ?_
  refine G.newa 0 dX12_init_376 (by decide) arc_0 h (fun M90 h => ?_)
  refine G.putRF dX12_init_378 cok12 (by decide) flX12_152 rfl rfl rfl fr12_64 h (fun M91 h => ?_)
  refine G.aload_n dX12_init_381 rfl rfl ?_
  refine G.bipush (30 : Int32) dX12_init_382 kb_30 ?_
  refine G.newa 0 dX12_init_384 (by decide) arc_0 h (fun M92 h => ?_)
  refine G.putRF dX12_init_386 cok12 (by decide) flX12_155 rfl rfl rfl fr12_65 h (fun M93 h => ?_)
  refine G.aload_n dX12_init_389 rfl rfl ?_
  refine G.bipush (30 : Int32) dX12_init_390 kb_30 ?_
  refine G.newa 0 dX12_init_392 (by decide) arc_0 h (fun M94 h => ?_)
  refine G.putRF dX12_init_394 cok12 (by decide) flX12_158 rfl rfl rfl fr12_66 h (fun M95 h => ?_)
  refine G.aload_n dX12_init_397 rfl rfl ?_
  refine G.bipush (30 : Int32) dX12_init_398 kb_30 ?_
  refine G.newa 0 dX12_init_400 (by decide) arc_0 h (fun M96 h => ?_)
  refine G.putRF dX12_init_402 cok12 (by decide) flX12_161 rfl rfl rfl fr12_67 h (fun M97 h => ?_)
  refine G.aload_n dX12_init_405 rfl rfl ?_
  refine G.sipush (250 : Int32) dX12_init_406 ks_250 ?_
  refine G.newa 0 dX12_init_409 (by decide) arc_0 h (fun M98 h => ?_)
  refine G.putRF dX12_init_411 cok12 (by decide) flX12_164 rfl rfl rfl fr12_68 h (fun M99 h => ?_)
  refine G.aload_n dX12_init_414 rfl rfl ?_
  refine G.bipush (30 : Int32) dX12_init_415 kb_30 ?_
  refine G.newa 0 dX12_init_417 (by decide) arc_0 h (fun M100 h => ?_)
  refine G.putRF dX12_init_419 cok12 (by decide) flX12_167 rfl rfl rfl fr12_69 h (fun M101 h => ?_)
  refine G.aload_n dX12_init_422 rfl rfl ?_
  refine G.sipush (600 : Int32) dX12_init_423 ks_600 ?_
  refine G.newa 0 dX12_init_426 (by decide) arc_0 h (fun M102 h => ?_)
  refine G.putRF dX12_init_428 cok12 (by decide) flX12_170 rfl rfl rfl fr12_70 h (fun M103 h => ?_)
  refine G.aload_n dX12_init_431 rfl rfl ?_
  refine G.bipush (6 : Int32) dX12_init_432 kb_6 ?_
  refine G.newa 0 dX12_init_434 (by decide) arc_0 h (fun M104 h => ?_)
  refine G.putRF dX12_init_436 cok12 (by decide) flX12_173 rfl rfl rfl fr12_71 h (fun M105 h => ?_)
  refine G.aload_n dX12_init_439 rfl rfl ?_
  refine G.iconst (-1 : Int32) dX12_init_440 ki_m1 ?_
  refine G.putI dX12_init_441 fkX12_176 nf12_73 ft12_73 h (fun M106 h => ?_)
  refine G.aload_n dX12_init_444 rfl rfl ?_
  refine G.bipush (25 : Int32) dX12_init_445 kb_25 ?_
  refine G.newa 0 dX12_init_447 (by decide) arc_0 h (fun M107 h => ?_)
  refine G.putRF dX12_init_449 cok12 (by decide) flX12_179 rfl rfl rfl fr12_74 h (fun M108 h => ?_)
  refine G.aload_n dX12_init_452 rfl rfl ?_
  refine G.sipush (25600 : Int32) dX12_init_453 ks_25600 ?_
  refine G.newa 0 dX12_init_456 (by decide) arc_0 h (fun M109 h => ?_)
  refine G.putRF dX12_init_458 cok12 (by decide) flX12_182 rfl rfl rfl fr12_75 h (fun M110 h => ?_)
  refine G.aload_n dX12_init_461 rfl rfl ?_
  refine G.sipush (160 : Int32) dX12_init_462 ks_160 ?_
  refine G.newa 0 dX12_init_465 (by decide) arc_0 h (fun M111 h => ?_)
  refine G.putRF dX12_init_467 cok12 (by decide) flX12_185 rfl rfl rfl fr12_77 h (fun M112 h => ?_)
  refine G.aload_n dX12_init_470 rfl rfl ?_
  refine G.sipush (160 : Int32) dX12_init_471 ks_160 ?_
  refine G.newa 0 dX12_init_474 (by decide) arc_0 h (fun M113 h => ?_)
  refine G.putRF dX12_init_476 cok12 (by decide) flX12_188 rfl rfl rfl fr12_78 h (fun M114 h => ?_)
  refine G.aload_n dX12_init_479 rfl rfl ?_
  refine G.sipush (160 : Int32) dX12_init_480 ks_160 ?_
  refine G.newa 0 dX12_init_483 (by decide) arc_0 h (fun M115 h => ?_)
  refine G.putRF dX12_init_485 cok12 (by decide) flX12_191 rfl rfl rfl fr12_79 h (fun M116 h => ?_)
  refine G.aload_n dX12_init_488 rfl rfl ?_
  refine G.sipush (160 : Int32) dX12_init_489 ks_160 ?_
  refine G.newa 0 dX12_init_492 (by decide) arc_0 h (fun M117 h => ?_)
  refine G.putRF dX12_init_494 cok12 (by decide) flX12_194 rfl rfl rfl fr12_80 h (fun M118 h => ?_)
  refine G.aload_n dX12_init_497 rfl rfl ?_
  refine G.bipush (10 : Int32) dX12_init_498 kb_10 ?_
  refine G.newa 0 dX12_init_500 (by decide) arc_0 h (fun M119 h => ?_)
  refine G.putRF dX12_init_502 cok12 (by decide) flX12_197 rfl rfl rfl fr12_81 h (fun M120 h => ?_)
  refine G.aload_n dX12_init_505 rfl rfl ?_
  refine G.iconst (3 : Int32) dX12_init_506 ki_3 ?_
  refine G.newa 0 dX12_init_507 (by decide) arc_0 h (fun M121 h => ?_)
  refine G.dup dX12_init_509 rfl ?_
  refine G.iconst (0 : Int32) dX12_init_510 ki_0 ?_
  refine G.iconst (-1 : Int32) dX12_init_511 ki_m1 ?_
  refine G.iast dX12_init_512 h (fun M122 h => ?_)
  refine G.dup dX12_init_513 rfl ?_
  refine G.iconst (1 : Int32) dX12_init_514 ki_1 ?_
  refine G.iconst (-1 : Int32) dX12_init_515 ki_m1 ?_
  refine G.iast dX12_init_516 h (fun M123 h => ?_)
  refine G.dup dX12_init_517 rfl ?_
  refine G.iconst (2 : Int32) dX12_init_518 ki_2 ?_
  refine G.iconst (-1 : Int32) dX12_init_519 ki_m1 ?_
  refine G.iast dX12_init_520 h (fun M124 h => ?_)
  refine G.putRF dX12_init_521 cok12 (by decide) flX12_200 rfl rfl rfl fr12_88 h (fun M125 h => ?_)
  refine G.aload_n dX12_init_524 rfl rfl ?_
  refine G.bipush (90 : Int32) dX12_init_525 kb_90 ?_
  refine G.newa 0 dX12_init_527 (by decide) arc_0 h (fun M126 h => ?_)
  refine G.putRF dX12_init_529 cok12 (by decide) flX12_203 rfl rfl rfl fr12_89 h (fun M127 h => ?_)
  refine G.aload_n dX12_init_532 rfl rfl ?_
  refine G.bipush (90 : Int32) dX12_init_533 kb_90 ?_
  refine G.newa 0 dX12_init_535 (by decide) arc_0 h (fun M128 h => ?_)
  refine G.putRF dX12_init_537 cok12 (by decide) flX12_206 rfl rfl rfl fr12_90 h (fun M129 h => ?_)
  refine G.aload_n dX12_init_540 rfl rfl ?_
  refine G.bipush (90 : Int32) dX12_init_541 kb_90 ?_
  refine G.newa 0 dX12_init_543 (by decide) arc_0 h (fun M130 h => ?_)
  refine G.putRF dX12_init_545 cok12 (by decide) flX12_209 rfl rfl rfl fr12_91 h (fun M131 h => ?_)
  refine G.aload_n dX12_init_548 rfl rfl ?_
  refine G.bipush (90 : Int32) dX12_init_549 kb_90 ?_
  refine G.newa 0 dX12_init_551 (by decide) arc_0 h (fun M132 h => ?_)
  refine G.putRF dX12_init_553 cok12 (by decide) flX12_212 rfl rfl rfl fr12_92 h (fun M133 h => ?_)
  refine G.aload_n dX12_init_556 rfl rfl ?_
  refine G.bipush (90 : Int32) dX12_init_557 kb_90 ?_
  refine G.newa 0 dX12_init_559 (by decide) arc_0 h (fun M134 h => ?_)
  refine G.putRF dX12_init_561 cok12 (by decide) flX12_215 rfl rfl rfl fr12_93 h (fun M135 h => ?_)
  refine G.aload_n dX12_init_564 rfl rfl ?_
  refine G.getR dX12_init_565 fkX12_34 fr12_9 h (fun v136 h => ?_)
  refine G.iconst (0 : Int32) dX12_init_568 ki_0 ?_
  refine G.bipush (112 : Int32) dX12_init_569 kb_112 ?_
  refine G.bipush (108 : Int32) dX12_init_571 kb_108 ?_
  refine G.bipush (97 : Int32) dX12_init_573 kb_97 ?_
  refine G.bipush (99 : Int32) dX12_init_575 kb_99 ?_
  refine G.bipush (101 : Int32) dX12_init_577 kb_101 ?_
  refine G.iconst (0 : Int32) dX12_init_579 ki_0 ?_
  refine G.iconst (0 : Int32) dX12_init_580 ki_0 ?_
  refine G.callSl [.int (112 : Int32), .int (108 : Int32), .int (97 : Int32), .int (99 : Int32), .int (101 : Int32), .int (0 : Int32), .int (0 : Int32)] [.int (0 : Int32), .ref v136] dX12_init_581 lkX12_218 okX12_word (fun v hv => C_X12_word hv) (Nat.le_of_ble_eq_true rfl) rfl rfl (Nat.le_of_ble_eq_true rfl) h (fun v137 h => ?_)
  refine G.last dX12_init_584 h (fun M138 h => ?_)
  refine G.aload_n dX12_init_585 rfl rfl ?_
  refine G.getR dX12_init_586 fkX12_34 fr12_9 h (fun v139 h => ?_)
  refine G.iconst (1 : Int32) dX12_init_589 ki_1 ?_
  refine G.bipush (112 : Int32) dX12_init_590 kb_112 ?_
  refine G.bipush (101 : Int32) dX12_init_592 kb_101 ?_
  refine G.bipush (114 : Int32) dX12_init_594 kb_114 ?_
  refine G.bipush (115 : Int32) dX12_init_596 kb_115 ?_
  refine G.bipush (111 : Int32) dX12_init_598 kb_111 ?_
  refine G.bipush (110 : Int32) dX12_init_600 kb_110 ?_
  refine G.iconst (0 : Int32) dX12_init_602 ki_0 ?_
  refine G.callSl [.int (112 : Int32), .int (101 : Int32), .int (114 : Int32), .int (115 : Int32), .int (111 : Int32), .int (110 : Int32), .int (0 : Int32)] [.int (1 : Int32), .ref v139] dX12_init_603 lkX12_218 okX12_word (fun v hv => C_X12_word hv) (Nat.le_of_ble_eq_true rfl) rfl rfl (Nat.le_of_ble_eq_true rfl) h (fun v140 h => ?_)
  refine G.last dX12_init_606 h (fun M141 h => ?_)
  refine G.aload_n dX12_init_607 rfl rfl ?_
  refine G.getR dX12_init_608 fkX12_34 fr12_9 h (fun v142 h => ?_)
  refine G.iconst (2 : Int32) dX12_init_611 ki_2 ?_
  refine G.bipush (98 : Int32) dX12_init_612 kb_98 ?_
  refine G.bipush (105 : Int32) dX12_init_614 kb_105 ?_
  refine G.bipush (114 : Int32) dX12_init_616 kb_114 ?_
  refine G.bipush (116 : Int32) dX12_init_618 kb_116 ?_
  refine G.bipush (104 : Int32) dX12_init_620 kb_104 ?_
  refine G.iconst (0 : Int32) dX12_init_622 ki_0 ?_
  refine G.iconst (0 : Int32) dX12_init_623 ki_0 ?_
  refine G.callSl [.int (98 : Int32), .int (105 : Int32), .int (114 : Int32), .int (116 : Int32), .int (104 : Int32), .int (0 : Int32), .int (0 : Int32)] [.int (2 : Int32), .ref v142] dX12_init_624 lkX12_218 okX12_word (fun v hv => C_X12_word hv) (Nat.le_of_ble_eq_true rfl) rfl rfl (Nat.le_of_ble_eq_true rfl) h (fun v143 h => ?_)
  refine G.last dX12_init_627 h (fun M144 h => ?_)
  refine G.aload_n dX12_init_628 rfl rfl ?_
  refine G.getR dX12_init_629 fkX12_34 fr12_9 h (fun v145 h => ?_)
  refine G.iconst (3 : Int32) dX12_init_632 ki_3 ?_
  refine G.bipush (116 : Int32) dX12_init_633 kb_116 ?_
  refine G.bipush (104 : Int32) dX12_init_635 kb_104 ?_
  refine G.bipush (105 : Int32) dX12_init_637 kb_105 ?_
  refine G.bipush (110 : Int32) dX12_init_639 kb_110 ?_
  refine G.bipush (103 : Int32) dX12_init_641 kb_103 ?_
  refine G.iconst (0 : Int32) dX12_init_643 ki_0 ?_
  refine G.iconst (0 : Int32) dX12_init_644 ki_0 ?_
  refine G.callSl [.int (116 : Int32), .int (104 : Int32), .int (105 : Int32), .int (110 : Int32), .int (103 : Int32), .int (0 : Int32), .int (0 : Int32)] [.int (3 : Int32), .ref v145] dX12_init_645 lkX12_218 okX12_word (fun v hv => C_X12_word hv) (Nat.le_of_ble_eq_true rfl) rfl rfl (Nat.le_of_ble_eq_true rfl) h (fun v146 h => ?_)
  refine G.last dX12_init_648 h (fun M147 h => ?_)
  refine G.aload_n dX12_init_649 rfl rfl ?_
  refine G.getR dX12_init_650 fkX12_34 fr12_9 h (fun v148 h => ?_)
  refine G.iconst (4 : Int32) dX12_init_653 ki_4 ?_
  refine G.bipush (116 : Int32) dX12_init_654 kb_116 ?_
  refine G.bipush (104 : Int32) dX12_init_656 kb_104 ?_
  refine G.bipush (105 : Int32) dX12_init_658 kb_105 ?_
  refine G.bipush (110 : Int32) dX12_init_660 kb_110 ?_
  refine G.iconst (0 : Int32) dX12_init_662 ki_0 ?_
  refine G.iconst (0 : Int32) dX12_init_663 ki_0 ?_
  refine G.iconst (0 : Int32) dX12_init_664 ki_0 ?_
  refine G.callSl [.int (116 : Int32), .int (104 : Int32), .int (105 : Int32), .int (110 : Int32), .int (0 : Int32), .int (0 : Int32), .int (0 : Int32)] [.int (4 : Int32), .ref v148] dX12_init_665 lkX12_218 okX12_word (fun v hv => C_X12_word hv) (Nat.le_of_ble_eq_true rfl) rfl rfl (Nat.le_of_ble_eq_true rfl) h (fun v149 h => ?_)
  refine G.last dX12_init_668 h (fun M150 h => ?_)
  refine G.aload_n dX12_init_669 rfl rfl ?_
  refine G.getR dX12_init_670 fkX12_34 fr12_9 h (fun v151 h => ?_)
  refine G.iconst (5 : Int32) dX12_init_673 ki_5 ?_
  refine G.bipush (97 : Int32) dX12_init_674 kb_97 ?_
  refine G.bipush (116 : Int32) dX12_init_676 kb_116 ?_
  refine G.iconst (0 : Int32) dX12_init_678 ki_0 ?_
  refine G.iconst (0 : Int32) dX12_init_679 ki_0 ?_
  refine G.iconst (0 : Int32) dX12_init_680 ki_0 ?_
  refine G.iconst (0 : Int32) dX12_init_681 ki_0 ?_
  refine G.iconst (0 : Int32) dX12_init_682 ki_0 ?_
  refine G.callSl [.int (97 : Int32), .int (116 : Int32), .int (0 : Int32), .int (0 : Int32), .int (0 : Int32), .int (0 : Int32), .int (0 : Int32)] [.int (5 : Int32), .ref v151] dX12_init_683 lkX12_218 okX12_word (fun v hv => C_X12_word hv) (Nat.le_of_ble_eq_true rfl) rfl rfl (Nat.le_of_ble_eq_true rfl) h (fun v152 h => ?_)
  refine G.last dX12_init_686 h (fun M153 h => ?_)
  refine G.aload_n dX12_init_687 rfl rfl ?_
  refine G.getR dX12_init_688 fkX12_34 fr12_9 h (fun v154 h => ?_)
  refine G.bipush (6 : Int32) dX12_init_691 kb_6 ?_
  refine G.bipush (107 : Int32) dX12_init_693 kb_107 ?_
  refine G.bipush (110 : Int32) dX12_init_695 kb_110 ?_
  refine G.bipush (111 : Int32) dX12_init_697 kb_111 ?_
  refine G.bipush (119 : Int32) dX12_init_699 kb_119 ?_
  refine G.bipush (115 : Int32) dX12_init_701 kb_115 ?_
  refine G.iconst (0 : Int32) dX12_init_703 ki_0 ?_
  refine G.iconst (0 : Int32) dX12_init_704 ki_0 ?_
  refine G.callSl [.int (107 : Int32), .int (110 : Int32), .int (111 : Int32), .int (119 : Int32), .int (115 : Int32), .int (0 : Int32), .int (0 : Int32)] [.int (6 : Int32), .ref v154] dX12_init_705 lkX12_218 okX12_word (fun v hv => C_X12_word hv) (Nat.le_of_ble_eq_true rfl) rfl rfl (Nat.le_of_ble_eq_true rfl) h (fun v155 h => ?_)
  refine G.last dX12_init_708 h (fun M156 h => ?_)
  refine G.aload_n dX12_init_709 rfl rfl ?_
  refine G.getR dX12_init_710 fkX12_34 fr12_9 h (fun v157 h => ?_)
  refine G.bipush (7 : Int32) dX12_init_713 kb_7 ?_
  refine G.bipush (109 : Int32) dX12_init_715 kb_109 ?_
  refine G.bipush (117 : Int32) dX12_init_717 kb_117 ?_
  refine G.bipush (115 : Int32) dX12_init_719 kb_115 ?_
  refine G.bipush (116 : Int32) dX12_init_721 kb_116 ?_
  refine G.iconst (0 : Int32) dX12_init_723 ki_0 ?_
  refine G.iconst (0 : Int32) dX12_init_724 ki_0 ?_
  refine G.iconst (0 : Int32) dX12_init_725 ki_0 ?_
  refine G.callSl [.int (109 : Int32), .int (117 : Int32), .int (115 : Int32), .int (116 : Int32), .int (0 : Int32), .int (0 : Int32), .int (0 : Int32)] [.int (7 : Int32), .ref v157] dX12_init_726 lkX12_218 okX12_word (fun v hv => C_X12_word hv) (Nat.le_of_ble_eq_true rfl) rfl rfl (Nat.le_of_ble_eq_true rfl) h (fun v158 h => ?_)
  refine G.last dX12_init_729 h (fun M159 h => ?_)
  refine G.aload_n dX12_init_730 rfl rfl ?_
  refine G.getR dX12_init_731 fkX12_34 fr12_9 h (fun v160 h => ?_)
  refine G.bipush (8 : Int32) dX12_init_734 kb_8 ?_
  refine G.bipush (97 : Int32) dX12_init_736 kb_97 ?_
  refine G.bipush (99 : Int32) dX12_init_738 kb_99 ?_
  refine G.bipush (116 : Int32) dX12_init_740 kb_116 ?_
  refine G.iconst (0 : Int32) dX12_init_742 ki_0 ?_
  refine G.iconst (0 : Int32) dX12_init_743 ki_0 ?_
  refine G.iconst (0 : Int32) dX12_init_744 ki_0 ?_
  refine G.iconst (0 : Int32) dX12_init_745 ki_0 ?_
  refine G.callSl [.int (97 : Int32), .int (99 : Int32), .int (116 : Int32), .int (0 : Int32), .int (0 : Int32), .int (0 : Int32), .int (0 : Int32)] [.int (8 : Int32), .ref v160] dX12_init_746 lkX12_218 okX12_word (fun v hv => C_X12_word hv) (Nat.le_of_ble_eq_true rfl) rfl rfl (Nat.le_of_ble_eq_true rfl) h (fun v161 h => ?_)
  refine G.last dX12_init_749 h (fun M162 h => ?_)
  refine G.aload_n dX12_init_750 rfl rfl ?_
  refine G.getR dX12_init_751 fkX12_34 fr12_9 h (fun v163 h => ?_)
  refine G.bipush (9 : Int32) dX12_init_754 kb_9 ?_
  refine G.bipush (116 : Int32) dX12_init_756 kb_116 ?_
  refine G.bipush (97 : Int32) dX12_init_758 kb_97 ?_
  refine G.bipush (115 : Int32) dX12_init_760 kb_115 ?_
  refine G.bipush (107 : Int32) dX12_init_762 kb_107 ?_
  refine G.iconst (0 : Int32) dX12_init_764 ki_0 ?_
  refine G.iconst (0 : Int32) dX12_init_765 ki_0 ?_
  refine G.iconst (0 : Int32) dX12_init_766 ki_0 ?_
  refine G.callSl [.int (116 : Int32), .int (97 : Int32), .int (115 : Int32), .int (107 : Int32), .int (0 : Int32), .int (0 : Int32), .int (0 : Int32)] [.int (9 : Int32), .ref v163] dX12_init_767 lkX12_218 okX12_word (fun v hv => C_X12_word hv) (Nat.le_of_ble_eq_true rfl) rfl rfl (Nat.le_of_ble_eq_true rfl) h (fun v164 h => ?_)
  refine G.last dX12_init_770 h (fun M165 h => ?_)
  refine G.aload_n dX12_init_771 rfl rfl ?_
  refine G.getR dX12_init_772 fkX12_34 fr12_9 h (fun v166 h => ?_)
  refine G.bipush (10 : Int32) dX12_init_775 kb_10 ?_
  refine G.bipush (115 : Int32) dX12_init_777 kb_115 ?_
  refine G.bipush (97 : Int32) dX12_init_779 kb_97 ?_
  refine G.bipush (121 : Int32) dX12_init_781 kb_121 ?_
  refine G.iconst (0 : Int32) dX12_init_783 ki_0 ?_
  refine G.iconst (0 : Int32) dX12_init_784 ki_0 ?_
  refine G.iconst (0 : Int32) dX12_init_785 ki_0 ?_
  refine G.iconst (0 : Int32) dX12_init_786 ki_0 ?_
  refine G.callSl [.int (115 : Int32), .int (97 : Int32), .int (121 : Int32), .int (0 : Int32), .int (0 : Int32), .int (0 : Int32), .int (0 : Int32)] [.int (10 : Int32), .ref v166] dX12_init_787 lkX12_218 okX12_word (fun v hv => C_X12_word hv) (Nat.le_of_ble_eq_true rfl) rfl rfl (Nat.le_of_ble_eq_true rfl) h (fun v167 h => ?_)
  refine G.last dX12_init_790 h (fun M168 h => ?_)
  refine G.aload_n dX12_init_791 rfl rfl ?_
  refine G.getR dX12_init_792 fkX12_34 fr12_9 h (fun v169 h => ?_)
  refine G.bipush (11 : Int32) dX12_init_795 kb_11 ?_
  refine G.bipush (97 : Int32) dX12_init_797 kb_97 ?_
  refine G.bipush (115 : Int32) dX12_init_799 kb_115 ?_
  refine G.bipush (107 : Int32) dX12_init_801 kb_107 ?_
  refine G.iconst (0 : Int32) dX12_init_803 ki_0 ?_
  refine G.iconst (0 : Int32) dX12_init_804 ki_0 ?_
  refine G.iconst (0 : Int32) dX12_init_805 ki_0 ?_
  refine G.iconst (0 : Int32) dX12_init_806 ki_0 ?_
  refine G.callSl [.int (97 : Int32), .int (115 : Int32), .int (107 : Int32), .int (0 : Int32), .int (0 : Int32), .int (0 : Int32), .int (0 : Int32)] [.int (11 : Int32), .ref v169] dX12_init_807 lkX12_218 okX12_word (fun v hv => C_X12_word hv) (Nat.le_of_ble_eq_true rfl) rfl rfl (Nat.le_of_ble_eq_true rfl) h (fun v170 h => ?_)
  refine G.last dX12_init_810 h (fun M171 h => ?_)
  refine G.aload_n dX12_init_811 rfl rfl ?_
  refine G.getR dX12_init_812 fkX12_34 fr12_9 h (fun v172 h => ?_)
  refine G.bipush (12 : Int32) dX12_init_815 kb_12 ?_
  refine G.bipush (105 : Int32) dX12_init_817 kb_105 ?_
  refine G.bipush (102 : Int32) dX12_init_819 kb_102 ?_
  refine G.iconst (0 : Int32) dX12_init_821 ki_0 ?_
  refine G.iconst (0 : Int32) dX12_init_822 ki_0 ?_
  refine G.iconst (0 : Int32) dX12_init_823 ki_0 ?_
  refine G.iconst (0 : Int32) dX12_init_824 ki_0 ?_
  refine G.iconst (0 : Int32) dX12_init_825 ki_0 ?_
  refine G.callSl [.int (105 : Int32), .int (102 : Int32), .int (0 : Int32), .int (0 : Int32), .int (0 : Int32), .int (0 : Int32), .int (0 : Int32)] [.int (12 : Int32), .ref v172] dX12_init_826 lkX12_218 okX12_word (fun v hv => C_X12_word hv) (Nat.le_of_ble_eq_true rfl) rfl rfl (Nat.le_of_ble_eq_true rfl) h (fun v173 h => ?_)
  refine G.last dX12_init_829 h (fun M174 h => ?_)
  refine G.aload_n dX12_init_830 rfl rfl ?_
  refine G.getR dX12_init_831 fkX12_34 fr12_9 h (fun v175 h => ?_)
  refine G.bipush (13 : Int32) dX12_init_834 kb_13 ?_
  refine G.bipush (111 : Int32) dX12_init_836 kb_111 ?_
  refine G.bipush (114 : Int32) dX12_init_838 kb_114 ?_
  refine G.iconst (0 : Int32) dX12_init_840 ki_0 ?_
  refine G.iconst (0 : Int32) dX12_init_841 ki_0 ?_
  refine G.iconst (0 : Int32) dX12_init_842 ki_0 ?_
  refine G.iconst (0 : Int32) dX12_init_843 ki_0 ?_
  refine G.iconst (0 : Int32) dX12_init_844 ki_0 ?_
  refine G.callSl [.int (111 : Int32), .int (114 : Int32), .int (0 : Int32), .int (0 : Int32), .int (0 : Int32), .int (0 : Int32), .int (0 : Int32)] [.int (13 : Int32), .ref v175] dX12_init_845 lkX12_218 okX12_word (fun v hv => C_X12_word hv) (Nat.le_of_ble_eq_true rfl) rfl rfl (Nat.le_of_ble_eq_true rfl) h (fun v176 h => ?_)
  refine G.last dX12_init_848 h (fun M177 h => ?_)
  refine G.aload_n dX12_init_849 rfl rfl ?_
  refine G.getR dX12_init_850 fkX12_34 fr12_9 h (fun v178 h => ?_)
  refine G.bipush (14 : Int32) dX12_init_853 kb_14 ?_
  refine G.bipush (97 : Int32) dX12_init_855 kb_97 ?_
  refine G.bipush (110 : Int32) dX12_init_857 kb_110 ?_
  refine G.bipush (100 : Int32) dX12_init_859 kb_100 ?_
  refine G.iconst (0 : Int32) dX12_init_861 ki_0 ?_
  refine G.iconst (0 : Int32) dX12_init_862 ki_0 ?_
  refine G.iconst (0 : Int32) dX12_init_863 ki_0 ?_
  refine G.iconst (0 : Int32) dX12_init_864 ki_0 ?_
  refine G.callSl [.int (97 : Int32), .int (110 : Int32), .int (100 : Int32), .int (0 : Int32), .int (0 : Int32), .int (0 : Int32), .int (0 : Int32)] [.int (14 : Int32), .ref v178] dX12_init_865 lkX12_218 okX12_word (fun v hv => C_X12_word hv) (Nat.le_of_ble_eq_true rfl) rfl rfl (Nat.le_of_ble_eq_true rfl) h (fun v179 h => ?_)
  refine G.last dX12_init_868 h (fun M180 h => ?_)
  refine G.aload_n dX12_init_869 rfl rfl ?_
  refine G.getR dX12_init_870 fkX12_34 fr12_9 h (fun v181 h => ?_)
  refine G.bipush (15 : Int32) dX12_init_873 kb_15 ?_
  refine G.bipush (110 : Int32) dX12_init_875 kb_110 ?_
  refine G.bipush (111 : Int32) dX12_init_877 kb_111 ?_
  refine G.bipush (116 : Int32) dX12_init_879 kb_116 ?_
  refine G.iconst (0 : Int32) dX12_init_881 ki_0 ?_
  refine G.iconst (0 : Int32) dX12_init_882 ki_0 ?_
  refine G.iconst (0 : Int32) dX12_init_883 ki_0 ?_
  refine G.iconst (0 : Int32) dX12_init_884 ki_0 ?_
  refine G.callSl [.int (110 : Int32), .int (111 : Int32), .int (116 : Int32), .int (0 : Int32), .int (0 : Int32), .int (0 : Int32), .int (0 : Int32)] [.int (15 : Int32), .ref v181] dX12_init_885 lkX12_218 okX12_word (fun v hv => C_X12_word hv) (Nat.le_of_ble_eq_true rfl) rfl rfl (Nat.le_of_ble_eq_true rfl) h (fun v182 h => ?_)
  refine G.last dX12_init_888 h (fun M183 h => ?_)
  refine G.aload_n dX12_init_889 rfl rfl ?_
  refine G.getR dX12_init_890 fkX12_34 fr12_9 h (fun v184 h => ?_)
  refine G.bipush (16 : Int32) dX12_init_893 kb_16 ?_
  refine G.bipush (109 : Int32) dX12_init_895 kb_109 ?_
  refine G.bipush (105 : Int32) dX12_init_897 kb_105 ?_
  refine G.bipush (110 : Int32) dX12_init_899 kb_110 ?_
  refine G.bipush (101 : Int32) dX12_init_901 kb_101 ?_
  refine G.iconst (0 : Int32) dX12_init_903 ki_0 ?_
  refine G.iconst (0 : Int32) dX12_init_904 ki_0 ?_
  refine G.iconst (0 : Int32) dX12_init_905 ki_0 ?_
  refine G.callSl [.int (109 : Int32), .int (105 : Int32), .int (110 : Int32), .int (101 : Int32), .int (0 : Int32), .int (0 : Int32), .int (0 : Int32)] [.int (16 : Int32), .ref v184] dX12_init_906 lkX12_218 okX12_word (fun v hv => C_X12_word hv) (Nat.le_of_ble_eq_true rfl) rfl rfl (Nat.le_of_ble_eq_true rfl) h (fun v185 h => ?_)
  refine G.last dX12_init_909 h (fun M186 h => ?_)
  refine G.aload_n dX12_init_910 rfl rfl ?_
  refine G.getR dX12_init_911 fkX12_34 fr12_9 h (fun v187 h => ?_)
  refine G.bipush (17 : Int32) dX12_init_914 kb_17 ?_
  refine G.bipush (121 : Int32) dX12_init_916 kb_121 ?_
  refine G.bipush (111 : Int32) dX12_init_918 kb_111 ?_
  refine G.bipush (117 : Int32) dX12_init_920 kb_117 ?_
  refine G.bipush (114 : Int32) dX12_init_922 kb_114 ?_
  refine G.bipush (115 : Int32) dX12_init_924 kb_115 ?_
  refine G.iconst (0 : Int32) dX12_init_926 ki_0 ?_
  refine G.iconst (0 : Int32) dX12_init_927 ki_0 ?_
  refine G.callSl [.int (121 : Int32), .int (111 : Int32), .int (117 : Int32), .int (114 : Int32), .int (115 : Int32), .int (0 : Int32), .int (0 : Int32)] [.int (17 : Int32), .ref v187] dX12_init_928 lkX12_218 okX12_word (fun v hv => C_X12_word hv) (Nat.le_of_ble_eq_true rfl) rfl rfl (Nat.le_of_ble_eq_true rfl) h (fun v188 h => ?_)
  refine G.last dX12_init_931 h (fun M189 h => ?_)
  refine G.aload_n dX12_init_932 rfl rfl ?_
  refine G.getR dX12_init_933 fkX12_34 fr12_9 h (fun v190 h => ?_)
  refine G.bipush (18 : Int32) dX12_init_936 kb_18 ?_
  refine G.bipush (104 : Int32) dX12_init_938 kb_104 ?_
  refine G.bipush (111 : Int32) dX12_init_940 kb_111 ?_
  refine G.bipush (117 : Int32) dX12_init_942 kb_117 ?_
  refine G.bipush (114 : Int32) dX12_init_944 kb_114 ?_
  refine G.iconst (0 : Int32) dX12_init_946 ki_0 ?_
  refine G.iconst (0 : Int32) dX12_init_947 ki_0 ?_
  refine G.iconst (0 : Int32) dX12_init_948 ki_0 ?_
  refine G.callSl [.int (104 : Int32), .int (111 : Int32), .int (117 : Int32), .int (114 : Int32), .int (0 : Int32), .int (0 : Int32), .int (0 : Int32)] [.int (18 : Int32), .ref v190] dX12_init_949 lkX12_218 okX12_word (fun v hv => C_X12_word hv) (Nat.le_of_ble_eq_true rfl) rfl rfl (Nat.le_of_ble_eq_true rfl) h (fun v191 h => ?_)
  refine G.last dX12_init_952 h (fun M192 h => ?_)
  refine G.aload_n dX12_init_953 rfl rfl ?_
  refine G.getR dX12_init_954 fkX12_34 fr12_9 h (fun v193 h => ?_)
  refine G.bipush (19 : Int32) dX12_init_957 kb_19 ?_
  refine G.bipush (99 : Int32) dX12_init_959 kb_99 ?_
  refine G.bipush (114 : Int32) dX12_init_961 kb_114 ?_
  refine G.bipush (111 : Int32) dX12_init_963 kb_111 ?_
  refine G.bipush (119 : Int32) dX12_init_965 kb_119 ?_
  refine G.bipush (100 : Int32) dX12_init_967 kb_100 ?_
  refine G.iconst (0 : Int32) dX12_init_969 ki_0 ?_
  refine G.iconst (0 : Int32) dX12_init_970 ki_0 ?_
  refine G.callSl [.int (99 : Int32), .int (114 : Int32), .int (111 : Int32), .int (119 : Int32), .int (100 : Int32), .int (0 : Int32), .int (0 : Int32)] [.int (19 : Int32), .ref v193] dX12_init_971 lkX12_218 okX12_word (fun v hv => C_X12_word hv) (Nat.le_of_ble_eq_true rfl) rfl rfl (Nat.le_of_ble_eq_true rfl) h (fun v194 h => ?_)
  refine G.last dX12_init_974 h (fun M195 h => ?_)
  exact G.vretW dX12_init_975 rfl h
-- OnlyUpwardModel.put(I)V
set_option maxRecDepth 100000 in
set_option maxHeartbeats 4000000 in
def F_X12_put (n : Nat) (M : AM) (a0 : Nat) (a1 : Int32) : Option AM :=
  (iter (fun (s1 : Int32 × AM) => if s1.1 < 0 then some (.inr s1.2) else (gR 12 1 s1.2 a0).bind fun v3 => (gI 12 2 s1.2 a0).bind fun v4 => (wrB s1.2 v3 v4 ((a1 >>> (s1.1 &&& 31))).toInt8.toInt32).bind fun M5 => (gI 12 2 M5 a0).bind fun v6 => (pI 12 2 M5 a0 (v6 + (1 : Int32))).bind fun M7 => some (.inl ((s1.1 + (-8 : Int32)), M7))) n ((24 : Int32), M)).bind fun (e1 : AM) => some e1
set_option maxRecDepth 100000 in
set_option maxHeartbeats 4000000 in
theorem C_X12_put {n : Nat} {M : AM} {a0 : Nat} {a1 : Int32} {o : AM} (h : F_X12_put n M a0 a1 = some o) : Cn yX12_put cX12_put 3 none 0 [.ref a0, .int a1] M none o := by
  unfold F_X12_put at h
  refine Cn.of rfl (Nat.le_of_ble_eq_true rfl) ?_
  show G yX12_put cX12_put 3 none 0 0 [(0, .ref a0), (1, .int a1)] [] M none o
  refine G.bipush (24 : Int32) dX12_put_0 kb_24 ?_
  refine G.istore_n (lv' := [(2, .int (24 : Int32)), (0, .ref a0), (1, .int a1)]) dX12_put_2 rfl (Nat.le_of_ble_eq_true rfl) rfl ?_
  refine G.sub (lv' := [(0, .ref a0), (1, .int a1), (2, .int (24 : Int32))]) [1, 2, 0] rfl ?_
  refine loopE (fun (s1 : Int32 × AM) => G yX12_put cX12_put 3 none 0 3 [(0, .ref a0), (1, .int a1), (2, .int s1.1)] [] s1.2 none o) (fun (e1 : AM) => G yX12_put cX12_put 3 none 0 36 [] [] e1 none o) h ?_ ?_
  · intro e1 h
    show G yX12_put cX12_put 3 none 0 36 [] [] e1 none o
    exact G.vretW dX12_put_36 rfl h
  · intro s1 x1 h K1
    show G yX12_put cX12_put 3 none 0 3 [(0, .ref a0), (1, .int a1), (2, .int s1.1)] [] s1.2 none o
    refine G.iload_n dX12_put_3 rfl rfl ?_
    refine G.if_lt 36 dX12_put_4 (by decide) h (fun c2 h => ?_) (fun c2 h => ?_)
    · refine G.sub (lv' := []) [] rfl ?_
      have h := leafR' h K1
      exact h
    · refine G.aload_n dX12_put_7 rfl rfl ?_
      refine G.getR dX12_put_8 fkX12_13 fr12_1 h (fun v3 h => ?_)
      refine G.aload_n dX12_put_11 rfl rfl ?_
      refine G.getI dX12_put_12 fkX12_222 fr12_2 h (fun v4 h => ?_)
      refine G.iload_n dX12_put_15 rfl rfl ?_
      refine G.iload_n dX12_put_16 rfl rfl ?_
      refine G.ishr dX12_put_17 ?_
      refine G.i2b dX12_put_18 ?_
      refine G.bast dX12_put_19 h (fun M5 h => ?_)
      refine G.aload_n dX12_put_20 rfl rfl ?_
      refine G.dup dX12_put_21 rfl ?_
      refine G.getI dX12_put_22 fkX12_222 fr12_2 h (fun v6 h => ?_)
      refine G.iconst (1 : Int32) dX12_put_25 ki_1 ?_
      refine G.iadd dX12_put_26 ?_
      refine G.putI dX12_put_27 fkX12_222 nf12_2 ft12_2 h (fun M7 h => ?_)
      refine G.iinc s1.1 (w := (s1.1 + (-8 : Int32))) (lv' := [(2, .int (s1.1 + (-8 : Int32))), (0, .ref a0), (1, .int a1)]) dX12_put_30 rfl rfl (Nat.le_of_ble_eq_true rfl) rfl ?_
      refine G.goto 3 dX12_put_33 (by decide) ?_
      refine G.sub (lv' := [(0, .ref a0), (1, .int a1), (2, .int (s1.1 + (-8 : Int32)))]) [1, 2, 0] rfl ?_
      have h := leafL' h K1
      exact h
-- OnlyUpwardModel.feed(IIIII)I
set_option maxRecDepth 100000 in
set_option maxHeartbeats 4000000 in
def F_X12_feed (n : Nat) (M : AM) (a0 : Nat) (a1 : Int32) (a2 : Int32) (a3 : Int32) (a4 : Int32) (a5 : Int32) : Option (Int32 × AM) :=
  (gI 12 2 M a0).bind fun v1 => if (v1 + (20 : Int32)) ≤ (2000 : Int32) then (rcv 12 M a0 (F_X12_put n M a0 a1)).bind fun M4 => (rcv 12 M4 a0 (F_X12_put n M4 a0 a2)).bind fun M6 => (rcv 12 M6 a0 (F_X12_put n M6 a0 a3)).bind fun M8 => (rcv 12 M8 a0 (F_X12_put n M8 a0 a4)).bind fun M10 => (rcv 12 M10 a0 (F_X12_put n M10 a0 a5)).bind fun M12 => (gI 12 2 M12 a0).bind fun v13 => some (v13, M12) else some ((-1 : Int32), M)
set_option maxRecDepth 100000 in
set_option maxHeartbeats 4000000 in
theorem C_X12_feed {n : Nat} {M : AM} {a0 : Nat} {a1 : Int32} {a2 : Int32} {a3 : Int32} {a4 : Int32} {a5 : Int32} {o : (Int32 × AM)} (h : F_X12_feed n M a0 a1 a2 a3 a4 a5 = some o) : Cn yX12_feed cX12_feed 6 (some .int) 1 [.ref a0, .int a1, .int a2, .int a3, .int a4, .int a5] M (some (.int o.1)) o.2 := by
  unfold F_X12_feed at h
  refine Cn.of rfl (Nat.le_of_ble_eq_true rfl) ?_
  show G yX12_feed cX12_feed 6 (some .int) 1 0 [(0, .ref a0), (1, .int a1), (2, .int a2), (3, .int a3), (4, .int a4), (5, .int a5)] [] M (some (.int o.1)) o.2
  refine G.aload_n dX12_feed_0 rfl rfl ?_
  refine G.getI dX12_feed_1 fkX12_222 fr12_2 h (fun v1 h => ?_)
  refine G.bipush (20 : Int32) dX12_feed_4 kb_20 ?_
  refine G.iadd dX12_feed_6 ?_
  refine G.sipush (2000 : Int32) dX12_feed_7 ks_2000 ?_
  refine G.icmp_le 15 dX12_feed_10 (by decide) h (fun c2 h => ?_) (fun c2 h => ?_)
  · refine G.aload_n dX12_feed_15 rfl rfl ?_
    refine G.iload_n dX12_feed_16 rfl rfl ?_
    refine G.callVv (ci := 12) [.int a1] [] dX12_feed_17 lkX12_225 okX12_put rfl (fun v hv => C_X12_put hv) (Nat.le_of_ble_eq_true rfl) rfl rfl (Nat.le_of_ble_eq_true rfl) h (fun M4 h => ?_)
    refine G.aload_n dX12_feed_20 rfl rfl ?_
    refine G.iload_n dX12_feed_21 rfl rfl ?_
    refine G.callVv (ci := 12) [.int a2] [] dX12_feed_22 lkX12_225 okX12_put rfl (fun v hv => C_X12_put hv) (Nat.le_of_ble_eq_true rfl) rfl rfl (Nat.le_of_ble_eq_true rfl) h (fun M6 h => ?_)
    refine G.aload_n dX12_feed_25 rfl rfl ?_
    refine G.iload_n dX12_feed_26 rfl rfl ?_
    refine G.callVv (ci := 12) [.int a3] [] dX12_feed_27 lkX12_225 okX12_put rfl (fun v hv => C_X12_put hv) (Nat.le_of_ble_eq_true rfl) rfl rfl (Nat.le_of_ble_eq_true rfl) h (fun M8 h => ?_)
    refine G.aload_n dX12_feed_30 rfl rfl ?_
    refine G.iload dX12_feed_31 rfl ?_
    refine G.callVv (ci := 12) [.int a4] [] dX12_feed_33 lkX12_225 okX12_put rfl (fun v hv => C_X12_put hv) (Nat.le_of_ble_eq_true rfl) rfl rfl (Nat.le_of_ble_eq_true rfl) h (fun M10 h => ?_)
    refine G.aload_n dX12_feed_36 rfl rfl ?_
    refine G.iload dX12_feed_37 rfl ?_
    refine G.callVv (ci := 12) [.int a5] [] dX12_feed_39 lkX12_225 okX12_put rfl (fun v hv => C_X12_put hv) (Nat.le_of_ble_eq_true rfl) rfl rfl (Nat.le_of_ble_eq_true rfl) h (fun M12 h => ?_)
    refine G.aload_n dX12_feed_42 rfl rfl ?_
    refine G.getI dX12_feed_43 fkX12_222 fr12_2 h (fun v13 h => ?_)
    exact G.iretW dX12_feed_46 rfl (rfl) h
  · refine G.iconst (-1 : Int32) dX12_feed_13 ki_m1 ?_
    exact G.iretW dX12_feed_14 rfl (rfl) h
-- OnlyUpwardModel.back(I)I
set_option maxRecDepth 100000 in
set_option maxHeartbeats 4000000 in
def F_X12_back (n : Nat) (M : AM) (a0 : Nat) (a1 : Int32) : Option (Int32 × AM) :=
  if a1 < 0 then some ((-1 : Int32), M) else (gI 12 2 M a0).bind fun v2 => if a1 ≤ v2 then (gI 12 2 M a0).bind fun v4 => (pI 12 2 M a0 (v4 - a1)).bind fun M5 => (gI 12 2 M5 a0).bind fun v6 => some (v6, M5) else some ((-1 : Int32), M)
set_option maxRecDepth 100000 in
set_option maxHeartbeats 4000000 in
theorem C_X12_back {n : Nat} {M : AM} {a0 : Nat} {a1 : Int32} {o : (Int32 × AM)} (h : F_X12_back n M a0 a1 = some o) : Cn yX12_back cX12_back 2 (some .int) 0 [.ref a0, .int a1] M (some (.int o.1)) o.2 := by
  unfold F_X12_back at h
  refine Cn.of rfl (Nat.le_of_ble_eq_true rfl) ?_
  show G yX12_back cX12_back 2 (some .int) 0 0 [(0, .ref a0), (1, .int a1)] [] M (some (.int o.1)) o.2
  refine G.iload_n dX12_back_0 rfl rfl ?_
  refine G.if_lt 12 dX12_back_1 (by decide) h (fun c1 h => ?_) (fun c1 h => ?_)
  · refine G.iconst (-1 : Int32) dX12_back_12 ki_m1 ?_
    exact G.iretW dX12_back_13 rfl (rfl) h
  · refine G.iload_n dX12_back_4 rfl rfl ?_
    refine G.aload_n dX12_back_5 rfl rfl ?_
    refine G.getI dX12_back_6 fkX12_222 fr12_2 h (fun v2 h => ?_)
    refine G.icmp_le 14 dX12_back_9 (by decide) h (fun c3 h => ?_) (fun c3 h => ?_)
    · refine G.aload_n dX12_back_14 rfl rfl ?_
      refine G.dup dX12_back_15 rfl ?_
      refine G.getI dX12_back_16 fkX12_222 fr12_2 h (fun v4 h => ?_)
      refine G.iload_n dX12_back_19 rfl rfl ?_
      refine G.isub dX12_back_20 ?_
      refine G.putI dX12_back_21 fkX12_222 nf12_2 ft12_2 h (fun M5 h => ?_)
      refine G.aload_n dX12_back_24 rfl rfl ?_
      refine G.getI dX12_back_25 fkX12_222 fr12_2 h (fun v6 h => ?_)
      exact G.iretW dX12_back_28 rfl (rfl) h
    · refine G.iconst (-1 : Int32) dX12_back_12 ki_m1 ?_
      exact G.iretW dX12_back_13 rfl (rfl) h
-- java/lang/Integer.bitCount(I)I
set_option maxRecDepth 100000 in
set_option maxHeartbeats 4000000 in
def F_J6_bitCount_0f7a4 (n : Nat) (M : AM) (a0 : Int32) : Option Int32 :=
  lets (a0 - ((ush a0 (1 : Int32)) &&& (1431655765 : Int32))) fun (w1 : Int32) => lets ((w1 &&& (858993459 : Int32)) + ((ush w1 (2 : Int32)) &&& (858993459 : Int32))) fun (w2 : Int32) => lets ((w2 + (ush w2 (4 : Int32))) &&& (252645135 : Int32)) fun (w3 : Int32) => lets ((w3 + (ush w3 (8 : Int32))) + (ush (w3 + (ush w3 (8 : Int32))) (16 : Int32))) fun (w4 : Int32) => some (w4 &&& (63 : Int32))
set_option maxRecDepth 100000 in
set_option maxHeartbeats 4000000 in
theorem C_J6_bitCount_0f7a4 {n : Nat} {M : AM} {a0 : Int32} {o : Int32} (h : F_J6_bitCount_0f7a4 n M a0 = some o) : Cn yJ6_bitCount_0f7a4 cJ6_bitCount_0f7a4 1 (some .int) 0 [.int a0] M (some (.int o)) M := by
  unfold F_J6_bitCount_0f7a4 at h
  refine Cn.of rfl (Nat.le_of_ble_eq_true rfl) ?_
  show G yJ6_bitCount_0f7a4 cJ6_bitCount_0f7a4 1 (some .int) 0 0 [(0, .int a0)] [] M (some (.int o)) M
  refine G.iload_n dJ6_bitCount_0f7a4_0 rfl rfl ?_
  refine G.iload_n dJ6_bitCount_0f7a4_1 rfl rfl ?_
  refine G.iconst (1 : Int32) dJ6_bitCount_0f7a4_2 ki_1 ?_
  refine G.iushr dJ6_bitCount_0f7a4_3 ?_
  refine G.ldc_w (1431655765 : Int32) dJ6_bitCount_0f7a4_4 kcJ6_265 ?_
  refine G.iand dJ6_bitCount_0f7a4_7 ?_
  refine G.isub dJ6_bitCount_0f7a4_8 ?_
  refine lets_elim h (fun w1 ew1 h => ?_)
  rw [← ew1]
  refine G.istore_n (lv' := [(0, .int w1)]) dJ6_bitCount_0f7a4_9 rfl (Nat.le_of_ble_eq_true rfl) rfl ?_
  refine G.iload_n dJ6_bitCount_0f7a4_10 rfl rfl ?_
  refine G.ldc_w (858993459 : Int32) dJ6_bitCount_0f7a4_11 kcJ6_266 ?_
  refine G.iand dJ6_bitCount_0f7a4_14 ?_
  refine G.iload_n dJ6_bitCount_0f7a4_15 rfl rfl ?_
  refine G.iconst (2 : Int32) dJ6_bitCount_0f7a4_16 ki_2 ?_
  refine G.iushr dJ6_bitCount_0f7a4_17 ?_
  refine G.ldc_w (858993459 : Int32) dJ6_bitCount_0f7a4_18 kcJ6_266 ?_
  refine G.iand dJ6_bitCount_0f7a4_21 ?_
  refine G.iadd dJ6_bitCount_0f7a4_22 ?_
  refine lets_elim h (fun w2 ew2 h => ?_)
  rw [← ew2]
  refine G.istore_n (lv' := [(0, .int w2)]) dJ6_bitCount_0f7a4_23 rfl (Nat.le_of_ble_eq_true rfl) rfl ?_
  refine G.iload_n dJ6_bitCount_0f7a4_24 rfl rfl ?_
  refine G.iload_n dJ6_bitCount_0f7a4_25 rfl rfl ?_
  refine G.iconst (4 : Int32) dJ6_bitCount_0f7a4_26 ki_4 ?_
  refine G.iushr dJ6_bitCount_0f7a4_27 ?_
  refine G.iadd dJ6_bitCount_0f7a4_28 ?_
  refine G.ldc_w (252645135 : Int32) dJ6_bitCount_0f7a4_29 kcJ6_267 ?_
  refine G.iand dJ6_bitCount_0f7a4_32 ?_
  refine lets_elim h (fun w3 ew3 h => ?_)
  rw [← ew3]
  refine G.istore_n (lv' := [(0, .int w3)]) dJ6_bitCount_0f7a4_33 rfl (Nat.le_of_ble_eq_true rfl) rfl ?_
  refine G.iload_n dJ6_bitCount_0f7a4_34 rfl rfl ?_
  refine G.iload_n dJ6_bitCount_0f7a4_35 rfl rfl ?_
  refine G.bipush (8 : Int32) dJ6_bitCount_0f7a4_36 kb_8 ?_
  refine G.iushr dJ6_bitCount_0f7a4_38 ?_
  refine G.iadd dJ6_bitCount_0f7a4_39 ?_
  refine G.istore_n (lv' := [(0, .int (w3 + (ush w3 (8 : Int32))))]) dJ6_bitCount_0f7a4_40 rfl (Nat.le_of_ble_eq_true rfl) rfl ?_
  refine G.iload_n dJ6_bitCount_0f7a4_41 rfl rfl ?_
  refine G.iload_n dJ6_bitCount_0f7a4_42 rfl rfl ?_
  refine G.bipush (16 : Int32) dJ6_bitCount_0f7a4_43 kb_16 ?_
  refine G.iushr dJ6_bitCount_0f7a4_45 ?_
  refine G.iadd dJ6_bitCount_0f7a4_46 ?_
  refine lets_elim h (fun w4 ew4 h => ?_)
  rw [← ew4]
  refine G.istore_n (lv' := [(0, .int w4)]) dJ6_bitCount_0f7a4_47 rfl (Nat.le_of_ble_eq_true rfl) rfl ?_
  refine G.iload_n dJ6_bitCount_0f7a4_48 rfl rfl ?_
  refine G.bipush (63 : Int32) dJ6_bitCount_0f7a4_49 kb_63 ?_
  refine G.iand dJ6_bitCount_0f7a4_51 ?_
  exact G.iret dJ6_bitCount_0f7a4_52 rfl (rfl) h
-- OnlyUpwardModel.byteAt(I)I
set_option maxRecDepth 100000 in
set_option maxHeartbeats 4000000 in
def F_X12_byteAt (n : Nat) (M : AM) (a0 : Nat) (a1 : Int32) : Option Int32 :=
  (gI 12 4 M a0).bind fun v1 => if v1 ≤ a1 then some (0 : Int32) else (gR 12 3 M a0).bind fun v3 => (rdB M v3 a1).bind fun v4 => some (v4 &&& (255 : Int32))
set_option maxRecDepth 100000 in
set_option maxHeartbeats 4000000 in
theorem C_X12_byteAt {n : Nat} {M : AM} {a0 : Nat} {a1 : Int32} {o : Int32} (h : F_X12_byteAt n M a0 a1 = some o) : Cn yX12_byteAt cX12_byteAt 2 (some .int) 0 [.ref a0, .int a1] M (some (.int o)) M := by
  unfold F_X12_byteAt at h
  refine Cn.of rfl (Nat.le_of_ble_eq_true rfl) ?_
  show G yX12_byteAt cX12_byteAt 2 (some .int) 0 0 [(0, .ref a0), (1, .int a1)] [] M (some (.int o)) M
  refine G.iload_n dX12_byteAt_0 rfl rfl ?_
  refine G.aload_n dX12_byteAt_1 rfl rfl ?_
  refine G.getI dX12_byteAt_2 fkX12_229 fr12_4 h (fun v1 h => ?_)
  refine G.icmp_ge 21 dX12_byteAt_5 (by decide) h (fun c2 h => ?_) (fun c2 h => ?_)
  · refine G.iconst (0 : Int32) dX12_byteAt_21 ki_0 ?_
    exact G.iret dX12_byteAt_22 rfl (rfl) h
  · refine G.aload_n dX12_byteAt_8 rfl rfl ?_
    refine G.getR dX12_byteAt_9 fkX12_17 fr12_3 h (fun v3 h => ?_)
    refine G.iload_n dX12_byteAt_12 rfl rfl ?_
    refine G.bald dX12_byteAt_13 h (fun v4 h => ?_)
    refine G.sipush (255 : Int32) dX12_byteAt_14 ks_255 ?_
    refine G.iand dX12_byteAt_17 ?_
    refine G.goto 22 dX12_byteAt_18 (by decide) ?_
    exact G.iret dX12_byteAt_22 rfl (rfl) h
-- OnlyUpwardModel.token(IIIJ)V
set_option maxRecDepth 100000 in
set_option maxHeartbeats 4000000 in
def F_X12_token (n : Nat) (M : AM) (a0 : Nat) (a1 : Int32) (a2 : Int32) (a3 : Int32) (a4 : Int64) : Option AM :=
  (gR 12 5 M a0).bind fun v1 => (gI 12 10 M a0).bind fun v2 => (wrI M v1 v2 a1).bind fun M3 => (gR 12 6 M3 a0).bind fun v4 => (gI 12 10 M3 a0).bind fun v5 => (wrI M3 v4 v5 a2).bind fun M6 => (gR 12 7 M6 a0).bind fun v7 => (gI 12 10 M6 a0).bind fun v8 => (wrI M6 v7 v8 a3).bind fun M9 => (gR 12 8 M9 a0).bind fun v10 => (gI 12 10 M9 a0).bind fun v11 => (wrL M9 v10 v11 a4).bind fun M12 => (gI 12 10 M12 a0).bind fun v13 => (pI 12 10 M12 a0 (v13 + (1 : Int32))).bind fun M14 => some M14
set_option maxRecDepth 100000 in
set_option maxHeartbeats 4000000 in
theorem C_X12_token {n : Nat} {M : AM} {a0 : Nat} {a1 : Int32} {a2 : Int32} {a3 : Int32} {a4 : Int64} {o : AM} (h : F_X12_token n M a0 a1 a2 a3 a4 = some o) : Cn yX12_token cX12_token 6 none 0 [.ref a0, .int a1, .int a2, .int a3, .long a4] M none o := by
  unfold F_X12_token at h
  refine Cn.of rfl (Nat.le_of_ble_eq_true rfl) ?_
  show G yX12_token cX12_token 6 none 0 0 [(0, .ref a0), (1, .int a1), (2, .int a2), (3, .int a3), (4, .long a4)] [] M none o
  refine G.aload_n dX12_token_0 rfl rfl ?_
  refine G.getR dX12_token_1 fkX12_20 fr12_5 h (fun v1 h => ?_)
  refine G.aload_n dX12_token_4 rfl rfl ?_
  refine G.getI dX12_token_5 fkX12_238 fr12_10 h (fun v2 h => ?_)
  refine G.iload_n dX12_token_8 rfl rfl ?_
  refine G.iast dX12_token_9 h (fun M3 h => ?_)
  refine G.aload_n dX12_token_10 rfl rfl ?_
  refine G.getR dX12_token_11 fkX12_24 fr12_6 h (fun v4 h => ?_)
  refine G.aload_n dX12_token_14 rfl rfl ?_
  refine G.getI dX12_token_15 fkX12_238 fr12_10 h (fun v5 h => ?_)
  refine G.iload_n dX12_token_18 rfl rfl ?_
  refine G.iast dX12_token_19 h (fun M6 h => ?_)
  refine G.aload_n dX12_token_20 rfl rfl ?_
  refine G.getR dX12_token_21 fkX12_27 fr12_7 h (fun v7 h => ?_)
  refine G.aload_n dX12_token_24 rfl rfl ?_
  refine G.getI dX12_token_25 fkX12_238 fr12_10 h (fun v8 h => ?_)
  refine G.iload_n dX12_token_28 rfl rfl ?_
  refine G.iast dX12_token_29 h (fun M9 h => ?_)
  refine G.aload_n dX12_token_30 rfl rfl ?_
  refine G.getR dX12_token_31 fkX12_30 fr12_8 h (fun v10 h => ?_)
  refine G.aload_n dX12_token_34 rfl rfl ?_
  refine G.getI dX12_token_35 fkX12_238 fr12_10 h (fun v11 h => ?_)
  refine G.lload dX12_token_38 rfl ?_
  refine G.last dX12_token_40 h (fun M12 h => ?_)
  refine G.aload_n dX12_token_41 rfl rfl ?_
  refine G.dup dX12_token_42 rfl ?_
  refine G.getI dX12_token_43 fkX12_238 fr12_10 h (fun v13 h => ?_)
  refine G.iconst (1 : Int32) dX12_token_46 ki_1 ?_
  refine G.iadd dX12_token_47 ?_
  refine G.putI dX12_token_48 fkX12_238 nf12_10 ft12_10 h (fun M14 h => ?_)
  exact G.vretW dX12_token_51 rfl h
-- OnlyUpwardModel.isLetter(I)Z
set_option maxRecDepth 100000 in
set_option maxHeartbeats 4000000 in
def F_X12_isLetter (n : Nat) (M : AM) (a0 : Int32) : Option Int32 :=
  if a0 < (97 : Int32) then some (0 : Int32) else if (122 : Int32) < a0 then some (0 : Int32) else some (1 : Int32)
set_option maxRecDepth 100000 in
set_option maxHeartbeats 4000000 in
theorem C_X12_isLetter {n : Nat} {M : AM} {a0 : Int32} {o : Int32} (h : F_X12_isLetter n M a0 = some o) : Cn yX12_isLetter cX12_isLetter 1 (some .boolean) 0 [.int a0] M (some (.int o)) M := by
  unfold F_X12_isLetter at h
  refine Cn.of rfl (Nat.le_of_ble_eq_true rfl) ?_
  show G yX12_isLetter cX12_isLetter 1 (some .boolean) 0 0 [(0, .int a0)] [] M (some (.int o)) M
  refine G.iload_n dX12_isLetter_0 rfl rfl ?_
  refine G.bipush (97 : Int32) dX12_isLetter_1 kb_97 ?_
  refine G.icmp_lt 16 dX12_isLetter_3 (by decide) h (fun c1 h => ?_) (fun c1 h => ?_)
  · refine G.iconst (0 : Int32) dX12_isLetter_16 ki_0 ?_
    exact G.iret dX12_isLetter_17 rfl (by decide) h
  · refine G.iload_n dX12_isLetter_6 rfl rfl ?_
    refine G.bipush (122 : Int32) dX12_isLetter_7 kb_122 ?_
    refine G.icmp_gt 16 dX12_isLetter_9 (by decide) h (fun c2 h => ?_) (fun c2 h => ?_)
    · refine G.iconst (0 : Int32) dX12_isLetter_16 ki_0 ?_
      exact G.iret dX12_isLetter_17 rfl (by decide) h
    · refine G.iconst (1 : Int32) dX12_isLetter_12 ki_1 ?_
      refine G.goto 17 dX12_isLetter_13 (by decide) ?_
      exact G.iret dX12_isLetter_17 rfl (by decide) h
-- OnlyUpwardModel.isDigit(I)Z
set_option maxRecDepth 100000 in
set_option maxHeartbeats 4000000 in
def F_X12_isDigit (n : Nat) (M : AM) (a0 : Int32) : Option Int32 :=
  if a0 < (48 : Int32) then some (0 : Int32) else if (57 : Int32) < a0 then some (0 : Int32) else some (1 : Int32)
set_option maxRecDepth 100000 in
set_option maxHeartbeats 4000000 in
theorem C_X12_isDigit {n : Nat} {M : AM} {a0 : Int32} {o : Int32} (h : F_X12_isDigit n M a0 = some o) : Cn yX12_isDigit cX12_isDigit 1 (some .boolean) 0 [.int a0] M (some (.int o)) M := by
  unfold F_X12_isDigit at h
  refine Cn.of rfl (Nat.le_of_ble_eq_true rfl) ?_
  show G yX12_isDigit cX12_isDigit 1 (some .boolean) 0 0 [(0, .int a0)] [] M (some (.int o)) M
  refine G.iload_n dX12_isDigit_0 rfl rfl ?_
  refine G.bipush (48 : Int32) dX12_isDigit_1 kb_48 ?_
  refine G.icmp_lt 16 dX12_isDigit_3 (by decide) h (fun c1 h => ?_) (fun c1 h => ?_)
  · refine G.iconst (0 : Int32) dX12_isDigit_16 ki_0 ?_
    exact G.iret dX12_isDigit_17 rfl (by decide) h
  · refine G.iload_n dX12_isDigit_6 rfl rfl ?_
    refine G.bipush (57 : Int32) dX12_isDigit_7 kb_57 ?_
    refine G.icmp_gt 16 dX12_isDigit_9 (by decide) h (fun c2 h => ?_) (fun c2 h => ?_)
    · refine G.iconst (0 : Int32) dX12_isDigit_16 ki_0 ?_
      exact G.iret dX12_isDigit_17 rfl (by decide) h
    · refine G.iconst (1 : Int32) dX12_isDigit_12 ki_1 ?_
      refine G.goto 17 dX12_isDigit_13 (by decide) ?_
      exact G.iret dX12_isDigit_17 rfl (by decide) h
-- OnlyUpwardModel.sign(III)I
set_option maxRecDepth 100000 in
set_option maxHeartbeats 4000000 in
def F_X12_sign (n : Nat) (M : AM) (a0 : Nat) (a1 : Int32) (a2 : Int32) (a3 : Int32) : Option (Int32 × AM) :=
  jn (fun (u1 : Int32) => jn (fun (u2 : Int32) => (rcv 12 M a0 (F_X12_token n M a0 u2 a1 (0 : Int32) (0 : Int64))).bind fun M4 => if u1 ≤ 0 then some ((1 : Int32), M4) else some ((2 : Int32), M4)) fun j6 => if u1 ≤ 0 then if a2 = (59 : Int32) then j6 (4 : Int32) else if a2 = (40 : Int32) then j6 (6 : Int32) else if a2 = (41 : Int32) then j6 (7 : Int32) else if a2 = (43 : Int32) then j6 (8 : Int32) else if a2 = (45 : Int32) then j6 (9 : Int32) else if a2 = (42 : Int32) then j6 (10 : Int32) else if a2 = (60 : Int32) then j6 (13 : Int32) else if a2 = (47 : Int32) then j6 (15 : Int32) else if a2 = (44 : Int32) then j6 (5 : Int32) else j6 (3 : Int32) else j6 u1) fun j17 => if a3 = (61 : Int32) then if a2 = (61 : Int32) then j17 (11 : Int32) else if a2 = (33 : Int32) then j17 (12 : Int32) else if a2 = (60 : Int32) then j17 (14 : Int32) else j17 (0 : Int32) else j17 (0 : Int32)
set_option maxRecDepth 100000 in
set_option maxHeartbeats 4000000 in
theorem C_X12_sign {n : Nat} {M : AM} {a0 : Nat} {a1 : Int32} {a2 : Int32} {a3 : Int32} {o : (Int32 × AM)} (h : F_X12_sign n M a0 a1 a2 a3 = some o) : Cn yX12_sign cX12_sign 6 (some .int) 1 [.ref a0, .int a1, .int a2, .int a3] M (some (.int o.1)) o.2 := by
  unfold F_X12_sign at h
  refine Cn.of rfl (Nat.le_of_ble_eq_true rfl) ?_
  show G yX12_sign cX12_sign 6 (some .int) 1 0 [(0, .ref a0), (1, .int a1), (2, .int a2), (3, .int a3)] [] M (some (.int o.1)) o.2
  refine G.iload_n dX12_sign_0 rfl rfl ?_
  refine G.bipush (61 : Int32) dX12_sign_1 kb_61 ?_
  refine jn_elim (fun j17 => ∀ (u1 : Int32), j17 u1 = some o → G yX12_sign cX12_sign 6 (some .int) 1 44 [(0, .ref a0), (1, .int a1), (2, .int a2)] [.int u1] M (some (.int o.1)) o.2) h ?_ ?_
  · intro u1 h
    refine G.istore (lv' := [(4, .int u1), (0, .ref a0), (1, .int a1), (2, .int a2)]) dX12_sign_44 (Nat.le_of_ble_eq_true rfl) rfl ?_
    refine G.iconst (3 : Int32) dX12_sign_46 ki_3 ?_
    refine G.istore (lv' := [(5, .int (3 : Int32)), (4, .int u1), (0, .ref a0), (1, .int a1), (2, .int a2)]) dX12_sign_47 (Nat.le_of_ble_eq_true rfl) rfl ?_
    refine G.iload dX12_sign_49 rfl ?_
    refine jn_elim (fun j6 => ∀ (u2 : Int32), j6 u2 = some o → G yX12_sign cX12_sign 6 (some .int) 1 173 [(0, .ref a0), (1, .int a1), (4, .int u1), (5, .int u2)] [] M (some (.int o.1)) o.2) h ?_ ?_
    · intro u2 h
      refine G.aload_n dX12_sign_173 rfl rfl ?_
      refine G.iload dX12_sign_174 rfl ?_
      refine G.iload_n dX12_sign_176 rfl rfl ?_
      refine G.iconst (0 : Int32) dX12_sign_177 ki_0 ?_
      refine G.lconst (0 : Int64) dX12_sign_178 rfl ?_
      refine G.callVv (ci := 12) [.int u2, .int a1, .int (0 : Int32), .long (0 : Int64)] [] dX12_sign_179 lkX12_245 okX12_token rfl (fun v hv => C_X12_token hv) (Nat.le_of_ble_eq_true rfl) rfl rfl (Nat.le_of_ble_eq_true rfl) h (fun M4 h => ?_)
      refine G.iload dX12_sign_182 rfl ?_
      refine G.if_le 191 dX12_sign_184 (by decide) h (fun c5 h => ?_) (fun c5 h => ?_)
      · refine G.iconst (1 : Int32) dX12_sign_191 ki_1 ?_
        exact G.iretW dX12_sign_192 rfl (rfl) h
      · refine G.iconst (2 : Int32) dX12_sign_187 ki_2 ?_
        refine G.goto 192 dX12_sign_188 (by decide) ?_
        exact G.iretW dX12_sign_192 rfl (rfl) h
    · intro j6 Jj6 h
      refine G.if_le 61 dX12_sign_51 (by decide) h (fun c7 h => ?_) (fun c7 h => ?_)
      · refine G.iload_n dX12_sign_61 rfl rfl ?_
        refine G.bipush (59 : Int32) dX12_sign_62 kb_59 ?_
        refine G.icmp_ne 73 dX12_sign_64 (by decide) h (fun c8 h => ?_) (fun c8 h => ?_)
        · refine G.iconst (4 : Int32) dX12_sign_67 ki_4 ?_
          refine G.istore (lv' := [(5, .int (4 : Int32)), (4, .int u1), (0, .ref a0), (1, .int a1), (2, .int a2)]) dX12_sign_68 (Nat.le_of_ble_eq_true rfl) rfl ?_
          refine G.goto 173 dX12_sign_70 (by decide) ?_
          refine G.sub (lv' := [(0, .ref a0), (1, .int a1), (4, .int u1), (5, .int (4 : Int32))]) [2, 3, 1, 0] rfl ?_
          exact Jj6 _ h
        · refine G.iload_n dX12_sign_73 rfl rfl ?_
          refine G.bipush (40 : Int32) dX12_sign_74 kb_40 ?_
          refine G.icmp_ne 86 dX12_sign_76 (by decide) h (fun c9 h => ?_) (fun c9 h => ?_)
          · refine G.bipush (6 : Int32) dX12_sign_79 kb_6 ?_
            refine G.istore (lv' := [(5, .int (6 : Int32)), (4, .int u1), (0, .ref a0), (1, .int a1), (2, .int a2)]) dX12_sign_81 (Nat.le_of_ble_eq_true rfl) rfl ?_
            refine G.goto 173 dX12_sign_83 (by decide) ?_
            refine G.sub (lv' := [(0, .ref a0), (1, .int a1), (4, .int u1), (5, .int (6 : Int32))]) [2, 3, 1, 0] rfl ?_
            exact Jj6 _ h
          · refine G.iload_n dX12_sign_86 rfl rfl ?_
            refine G.bipush (41 : Int32) dX12_sign_87 kb_41 ?_
            refine G.icmp_ne 99 dX12_sign_89 (by decide) h (fun c10 h => ?_) (fun c10 h => ?_)
            · refine G.bipush (7 : Int32) dX12_sign_92 kb_7 ?_
              refine G.istore (lv' := [(5, .int (7 : Int32)), (4, .int u1), (0, .ref a0), (1, .int a1), (2, .int a2)]) dX12_sign_94 (Nat.le_of_ble_eq_true rfl) rfl ?_
              refine G.goto 173 dX12_sign_96 (by decide) ?_
              refine G.sub (lv' := [(0, .ref a0), (1, .int a1), (4, .int u1), (5, .int (7 : Int32))]) [2, 3, 1, 0] rfl ?_
              exact Jj6 _ h
            · refine G.iload_n dX12_sign_99 rfl rfl ?_
              refine G.bipush (43 : Int32) dX12_sign_100 kb_43 ?_
              refine G.icmp_ne 112 dX12_sign_102 (by decide) h (fun c11 h => ?_) (fun c11 h => ?_)
              · refine G.bipush (8 : Int32) dX12_sign_105 kb_8 ?_
                refine G.istore (lv' := [(5, .int (8 : Int32)), (4, .int u1), (0, .ref a0), (1, .int a1), (2, .int a2)]) dX12_sign_107 (Nat.le_of_ble_eq_true rfl) rfl ?_
                refine G.goto 173 dX12_sign_109 (by decide) ?_
                refine G.sub (lv' := [(0, .ref a0), (1, .int a1), (4, .int u1), (5, .int (8 : Int32))]) [2, 3, 1, 0] rfl ?_
                exact Jj6 _ h
              · refine G.iload_n dX12_sign_112 rfl rfl ?_
                refine G.bipush (45 : Int32) dX12_sign_113 kb_45 ?_
                refine G.icmp_ne 125 dX12_sign_115 (by decide) h (fun c12 h => ?_) (fun c12 h => ?_)
                · refine G.bipush (9 : Int32) dX12_sign_118 kb_9 ?_
                  refine G.istore (lv' := [(5, .int (9 : Int32)), (4, .int u1), (0, .ref a0), (1, .int a1), (2, .int a2)]) dX12_sign_120 (Nat.le_of_ble_eq_true rfl) rfl ?_
                  refine G.goto 173 dX12_sign_122 (by decide) ?_
                  refine G.sub (lv' := [(0, .ref a0), (1, .int a1), (4, .int u1), (5, .int (9 : Int32))]) [2, 3, 1, 0] rfl ?_
                  exact Jj6 _ h
                · refine G.iload_n dX12_sign_125 rfl rfl ?_
                  refine G.bipush (42 : Int32) dX12_sign_126 kb_42 ?_
                  refine G.icmp_ne 138 dX12_sign_128 (by decide) h (fun c13 h => ?_) (fun c13 h => ?_)
                  · refine G.bipush (10 : Int32) dX12_sign_131 kb_10 ?_
                    refine G.istore (lv' := [(5, .int (10 : Int32)), (4, .int u1), (0, .ref a0), (1, .int a1), (2, .int a2)]) dX12_sign_133 (Nat.le_of_ble_eq_true rfl) rfl ?_
                    refine G.goto 173 dX12_sign_135 (by decide) ?_
                    refine G.sub (lv' := [(0, .ref a0), (1, .int a1), (4, .int u1), (5, .int (10 : Int32))]) [2, 3, 1, 0] rfl ?_
                    exact Jj6 _ h
                  · refine G.iload_n dX12_sign_138 rfl rfl ?_
                    refine G.bipush (60 : Int32) dX12_sign_139 kb_60 ?_
                    refine G.icmp_ne 151 dX12_sign_141 (by decide) h (fun c14 h => ?_) (fun c14 h => ?_)
                    · refine G.bipush (13 : Int32) dX12_sign_144 kb_13 ?_
                      refine G.istore (lv' := [(5, .int (13 : Int32)), (4, .int u1), (0, .ref a0), (1, .int a1), (2, .int a2)]) dX12_sign_146 (Nat.le_of_ble_eq_true rfl) rfl ?_
                      refine G.goto 173 dX12_sign_148 (by decide) ?_
                      refine G.sub (lv' := [(0, .ref a0), (1, .int a1), (4, .int u1), (5, .int (13 : Int32))]) [2, 3, 1, 0] rfl ?_
                      exact Jj6 _ h
                    · refine G.iload_n dX12_sign_151 rfl rfl ?_
                      refine G.bipush (47 : Int32) dX12_sign_152 kb_47 ?_
                      refine G.icmp_ne 164 dX12_sign_154 (by decide) h (fun c15 h => ?_) (fun c15 h => ?_)
                      · refine G.bipush (15 : Int32) dX12_sign_157 kb_15 ?_
                        refine G.istore (lv' := [(5, .int (15 : Int32)), (4, .int u1), (0, .ref a0), (1, .int a1), (2, .int a2)]) dX12_sign_159 (Nat.le_of_ble_eq_true rfl) rfl ?_
                        refine G.goto 173 dX12_sign_161 (by decide) ?_
                        refine G.sub (lv' := [(0, .ref a0), (1, .int a1), (4, .int u1), (5, .int (15 : Int32))]) [2, 3, 1, 0] rfl ?_
                        exact Jj6 _ h
                      · refine G.iload_n dX12_sign_164 rfl rfl ?_
                        refine G.bipush (44 : Int32) dX12_sign_165 kb_44 ?_
                        refine G.icmp_ne 173 dX12_sign_167 (by decide) h (fun c16 h => ?_) (fun c16 h => ?_)
                        · refine G.iconst (5 : Int32) dX12_sign_170 ki_5 ?_
                          refine G.istore (lv' := [(5, .int (5 : Int32)), (4, .int u1), (0, .ref a0), (1, .int a1), (2, .int a2)]) dX12_sign_171 (Nat.le_of_ble_eq_true rfl) rfl ?_
                          refine G.sub (lv' := [(0, .ref a0), (1, .int a1), (4, .int u1), (5, .int (5 : Int32))]) [2, 3, 1, 0] rfl ?_
                          exact Jj6 _ h
                        · refine G.sub (lv' := [(0, .ref a0), (1, .int a1), (4, .int u1), (5, .int (3 : Int32))]) [2, 3, 1, 0] rfl ?_
                          exact Jj6 _ h
      · refine G.iload dX12_sign_54 rfl ?_
        refine G.istore (lv' := [(5, .int u1), (4, .int u1), (0, .ref a0), (1, .int a1), (2, .int a2)]) dX12_sign_56 (Nat.le_of_ble_eq_true rfl) rfl ?_
        refine G.goto 173 dX12_sign_58 (by decide) ?_
        refine G.sub (lv' := [(0, .ref a0), (1, .int a1), (4, .int u1), (5, .int u1)]) [2, 3, 1, 0] rfl ?_
        exact Jj6 _ h
  · intro j17 Jj17 h
    refine G.icmp_eq 10 dX12_sign_3 (by decide) h (fun c18 h => ?_) (fun c18 h => ?_)
    · refine G.iload_n dX12_sign_10 rfl rfl ?_
      refine G.bipush (61 : Int32) dX12_sign_11 kb_61 ?_
      refine G.icmp_ne 21 dX12_sign_13 (by decide) h (fun c19 h => ?_) (fun c19 h => ?_)
      · refine G.bipush (11 : Int32) dX12_sign_16 kb_11 ?_
        refine G.goto 44 dX12_sign_18 (by decide) ?_
        refine G.sub (lv' := [(0, .ref a0), (1, .int a1), (2, .int a2)]) [0, 1, 2] rfl ?_
        exact Jj17 _ h
      · refine G.iload_n dX12_sign_21 rfl rfl ?_
        refine G.bipush (33 : Int32) dX12_sign_22 kb_33 ?_
        refine G.icmp_ne 32 dX12_sign_24 (by decide) h (fun c20 h => ?_) (fun c20 h => ?_)
        · refine G.bipush (12 : Int32) dX12_sign_27 kb_12 ?_
          refine G.goto 44 dX12_sign_29 (by decide) ?_
          refine G.sub (lv' := [(0, .ref a0), (1, .int a1), (2, .int a2)]) [0, 1, 2] rfl ?_
          exact Jj17 _ h
        · refine G.iload_n dX12_sign_32 rfl rfl ?_
          refine G.bipush (60 : Int32) dX12_sign_33 kb_60 ?_
          refine G.icmp_ne 43 dX12_sign_35 (by decide) h (fun c21 h => ?_) (fun c21 h => ?_)
          · refine G.bipush (14 : Int32) dX12_sign_38 kb_14 ?_
            refine G.goto 44 dX12_sign_40 (by decide) ?_
            refine G.sub (lv' := [(0, .ref a0), (1, .int a1), (2, .int a2)]) [0, 1, 2] rfl ?_
            exact Jj17 _ h
          · refine G.iconst (0 : Int32) dX12_sign_43 ki_0 ?_
            refine G.sub (lv' := [(0, .ref a0), (1, .int a1), (2, .int a2)]) [0, 1, 2] rfl ?_
            exact Jj17 _ h
    · refine G.iconst (0 : Int32) dX12_sign_6 ki_0 ?_
      refine G.goto 44 dX12_sign_7 (by decide) ?_
      refine G.sub (lv' := [(0, .ref a0), (1, .int a1), (2, .int a2)]) [0, 1, 2] rfl ?_
      exact Jj17 _ h
