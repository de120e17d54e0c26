-- OnlyUpward$World.addPlace()V
set_option maxRecDepth 100000 in
set_option maxHeartbeats 4000000 in
def F_X10_addPlace (n : Nat) (M : AM) (a0 : Nat) : Option AM :=
  (gR 10 0 M a0).bind fun v1 => (rdI M v1 (0 : Int32)).bind fun v2 => if (6 : Int32) ≤ v2 then some M else (gR 10 0 M a0).bind fun v4 => (rdI M v4 (0 : Int32)).bind fun v5 => (wrI M v4 (0 : Int32) (v5 + (1 : Int32))).bind fun M6 => some M6
set_option maxRecDepth 100000 in
set_option maxHeartbeats 4000000 in
theorem C_X10_addPlace {n : Nat} {M : AM} {a0 : Nat} {o : AM} (h : F_X10_addPlace n M a0 = some o) : Cn yX10_addPlace cX10_addPlace 1 none 0 [.ref a0] M none o := by
  unfold F_X10_addPlace at h
  refine Cn.of rfl (Nat.le_of_ble_eq_true rfl) ?_
  show G yX10_addPlace cX10_addPlace 1 none 0 0 [(0, .ref a0)] [] M none o
  refine G.aload_n dX10_addPlace_0 rfl rfl ?_
  refine G.getR dX10_addPlace_1 fkX10_9 fr10_0 h (fun v1 h => ?_)
  refine G.iconst (0 : Int32) dX10_addPlace_4 ki_0 ?_
  refine G.iald dX10_addPlace_5 h (fun v2 h => ?_)
  refine G.bipush (6 : Int32) dX10_addPlace_6 kb_6 ?_
  refine G.icmp_ge 21 dX10_addPlace_8 (by decide) h (fun c3 h => ?_) (fun c3 h => ?_)
  · exact G.vretW dX10_addPlace_21 rfl h
  · refine G.aload_n dX10_addPlace_11 rfl rfl ?_
    refine G.getR dX10_addPlace_12 fkX10_9 fr10_0 h (fun v4 h => ?_)
    refine G.iconst (0 : Int32) dX10_addPlace_15 ki_0 ?_
    refine G.dup2 dX10_addPlace_16 rfl rfl ?_
    refine G.iald dX10_addPlace_17 h (fun v5 h => ?_)
    refine G.iconst (1 : Int32) dX10_addPlace_18 ki_1 ?_
    refine G.iadd dX10_addPlace_19 ?_
    refine G.iast dX10_addPlace_20 h (fun M6 h => ?_)
    exact G.vretW dX10_addPlace_21 rfl h
-- OnlyUpward$Teller.within(III)I
set_option maxRecDepth 100000 in
set_option maxHeartbeats 4000000 in
def F_X8_within (n : Nat) (M : AM) (a0 : Nat) (a1 : Int32) (a2 : Int32) (a3 : Int32) : Option (Int32 × AM) :=
  (gR 8 0 M a0).bind fun v1 => (rcv 9 M v1 (F_X9_valueAt n M v1 a1)).bind fun v2 => jn ((rcv 8 M a0 (F_X8_refuse n M a0 (5 : Int32) a1)).bind fun M4 => some (a2, M4)) fun j5 => if (v2).toInt32 < a2 then j5 else if (v2).toInt32 ≤ a3 then some ((v2).toInt32, M) else j5
set_option maxRecDepth 100000 in
set_option maxHeartbeats 4000000 in
theorem C_X8_within {n : Nat} {M : AM} {a0 : Nat} {a1 : Int32} {a2 : Int32} {a3 : Int32} {o : (Int32 × AM)} (h : F_X8_within n M a0 a1 a2 a3 = some o) : Cn yX8_within cX8_within 5 (some .int) 1 [.ref a0, .int a1, .int a2, .int a3] M (some (.int o.1)) o.2 := by
  unfold F_X8_within at h
  refine Cn.of rfl (Nat.le_of_ble_eq_true rfl) ?_
  show G yX8_within cX8_within 5 (some .int) 1 0 [(0, .ref a0), (1, .int a1), (2, .int a2), (3, .int a3)] [] M (some (.int o.1)) o.2
  refine G.aload_n dX8_within_0 rfl rfl ?_
  refine G.getR dX8_within_1 fkX8_32 fr8_0 h (fun v1 h => ?_)
  refine G.iload_n dX8_within_4 rfl rfl ?_
  refine G.callVl (ci := 9) [.int a1] [] dX8_within_5 lkX8_114 okX9_valueAt rfl (fun v hv => C_X9_valueAt hv) (Nat.le_of_ble_eq_true rfl) rfl rfl (Nat.le_of_ble_eq_true rfl) h (fun v2 h => ?_)
  refine G.l2i dX8_within_8 ?_
  refine G.istore (lv' := [(4, .int (v2).toInt32), (0, .ref a0), (1, .int a1), (2, .int a2), (3, .int a3)]) dX8_within_9 (Nat.le_of_ble_eq_true rfl) rfl ?_
  refine G.iload dX8_within_11 rfl ?_
  refine G.iload_n dX8_within_13 rfl rfl ?_
  refine jn_elim (fun j5 => j5 = some o → G yX8_within cX8_within 5 (some .int) 1 23 [(0, .ref a0), (1, .int a1), (2, .int a2)] [] M (some (.int o.1)) o.2) h ?_ ?_
  · intro h
    refine G.aload_n dX8_within_23 rfl rfl ?_
    refine G.iconst (5 : Int32) dX8_within_24 ki_5 ?_
    refine G.iload_n dX8_within_25 rfl rfl ?_
    refine G.callVv (ci := 8) [.int (5 : Int32), .int a1] [] dX8_within_26 lkX8_93 okX8_refuse rfl (fun v hv => C_X8_refuse hv) (Nat.le_of_ble_eq_true rfl) rfl rfl (Nat.le_of_ble_eq_true rfl) h (fun M4 h => ?_)
    refine G.iload_n dX8_within_29 rfl rfl ?_
    exact G.iretW dX8_within_30 rfl (rfl) h
  · intro j5 Jj5 h
    refine G.icmp_lt 23 dX8_within_14 (by decide) h (fun c6 h => ?_) (fun c6 h => ?_)
    · refine G.sub (lv' := [(0, .ref a0), (1, .int a1), (2, .int a2)]) [1, 2, 3] rfl ?_
      exact Jj5  h
    · refine G.iload dX8_within_17 rfl ?_
      refine G.iload_n dX8_within_19 rfl rfl ?_
      refine G.icmp_le 31 dX8_within_20 (by decide) h (fun c7 h => ?_) (fun c7 h => ?_)
      · refine G.iload dX8_within_31 rfl ?_
        exact G.iretW dX8_within_33 rfl (rfl) h
      · refine G.sub (lv' := [(0, .ref a0), (1, .int a1), (2, .int a2)]) [1, 2, 3] rfl ?_
        exact Jj5  h
-- OnlyUpward$World.addThing(I)V
set_option maxRecDepth 100000 in
set_option maxHeartbeats 4000000 in
def F_X10_addThing (n : Nat) (M : AM) (a0 : Nat) (a1 : Int32) : Option AM :=
  (gR 10 0 M a0).bind fun v1 => (rdI M v1 (2 : Int32)).bind fun v2 => if (6 : Int32) ≤ v2 then some M else (gR 10 3 M a0).bind fun v4 => (wrI M v4 v2 a1).bind fun M5 => (gR 10 0 M5 a0).bind fun v6 => (rdI M5 v6 (2 : Int32)).bind fun v7 => (wrI M5 v6 (2 : Int32) (v7 + (1 : Int32))).bind fun M8 => some M8
set_option maxRecDepth 100000 in
set_option maxHeartbeats 4000000 in
theorem C_X10_addThing {n : Nat} {M : AM} {a0 : Nat} {a1 : Int32} {o : AM} (h : F_X10_addThing n M a0 a1 = some o) : Cn yX10_addThing cX10_addThing 3 none 0 [.ref a0, .int a1] M none o := by
  unfold F_X10_addThing at h
  refine Cn.of rfl (Nat.le_of_ble_eq_true rfl) ?_
  show G yX10_addThing cX10_addThing 3 none 0 0 [(0, .ref a0), (1, .int a1)] [] M none o
  refine G.aload_n dX10_addThing_0 rfl rfl ?_
  refine G.getR dX10_addThing_1 fkX10_9 fr10_0 h (fun v1 h => ?_)
  refine G.iconst (2 : Int32) dX10_addThing_4 ki_2 ?_
  refine G.iald dX10_addThing_5 h (fun v2 h => ?_)
  refine G.istore_n (lv' := [(2, .int v2), (0, .ref a0), (1, .int a1)]) dX10_addThing_6 rfl (Nat.le_of_ble_eq_true rfl) rfl ?_
  refine G.iload_n dX10_addThing_7 rfl rfl ?_
  refine G.bipush (6 : Int32) dX10_addThing_8 kb_6 ?_
  refine G.icmp_ge 30 dX10_addThing_10 (by decide) h (fun c3 h => ?_) (fun c3 h => ?_)
  · exact G.vretW dX10_addThing_30 rfl h
  · refine G.aload_n dX10_addThing_13 rfl rfl ?_
    refine G.getR dX10_addThing_14 fkX10_21 fr10_3 h (fun v4 h => ?_)
    refine G.iload_n dX10_addThing_17 rfl rfl ?_
    refine G.iload_n dX10_addThing_18 rfl rfl ?_
    refine G.iast dX10_addThing_19 h (fun M5 h => ?_)
    refine G.aload_n dX10_addThing_20 rfl rfl ?_
    refine G.getR dX10_addThing_21 fkX10_9 fr10_0 h (fun v6 h => ?_)
    refine G.iconst (2 : Int32) dX10_addThing_24 ki_2 ?_
    refine G.dup2 dX10_addThing_25 rfl rfl ?_
    refine G.iald dX10_addThing_26 h (fun v7 h => ?_)
    refine G.iconst (1 : Int32) dX10_addThing_27 ki_1 ?_
    refine G.iadd dX10_addThing_28 ?_
    refine G.iast dX10_addThing_29 h (fun M8 h => ?_)
    exact G.vretW dX10_addThing_30 rfl h
-- OnlyUpward$World.addPerson(II)V
set_option maxRecDepth 100000 in
set_option maxHeartbeats 4000000 in
def F_X10_addPerson (n : Nat) (M : AM) (a0 : Nat) (a1 : Int32) (a2 : Int32) : Option AM :=
  (gR 10 0 M a0).bind fun v1 => (rdI M v1 (1 : Int32)).bind fun v2 => if (10 : Int32) ≤ v2 then some M else (gR 10 1 M a0).bind fun v4 => (wrI M v4 v2 a1).bind fun M5 => (gR 10 2 M5 a0).bind fun v6 => (wrI M5 v6 v2 a2).bind fun M7 => (gR 10 0 M7 a0).bind fun v8 => (rdI M7 v8 (1 : Int32)).bind fun v9 => (wrI M7 v8 (1 : Int32) (v9 + (1 : Int32))).bind fun M10 => some M10
set_option maxRecDepth 100000 in
set_option maxHeartbeats 4000000 in
theorem C_X10_addPerson {n : Nat} {M : AM} {a0 : Nat} {a1 : Int32} {a2 : Int32} {o : AM} (h : F_X10_addPerson n M a0 a1 a2 = some o) : Cn yX10_addPerson cX10_addPerson 4 none 0 [.ref a0, .int a1, .int a2] M none o := by
  unfold F_X10_addPerson at h
  refine Cn.of rfl (Nat.le_of_ble_eq_true rfl) ?_
  show G yX10_addPerson cX10_addPerson 4 none 0 0 [(0, .ref a0), (1, .int a1), (2, .int a2)] [] M none o
  refine G.aload_n dX10_addPerson_0 rfl rfl ?_
  refine G.getR dX10_addPerson_1 fkX10_9 fr10_0 h (fun v1 h => ?_)
  refine G.iconst (1 : Int32) dX10_addPerson_4 ki_1 ?_
  refine G.iald dX10_addPerson_5 h (fun v2 h => ?_)
  refine G.istore_n (lv' := [(3, .int v2), (0, .ref a0), (1, .int a1), (2, .int a2)]) dX10_addPerson_6 rfl (Nat.le_of_ble_eq_true rfl) rfl ?_
  refine G.iload_n dX10_addPerson_7 rfl rfl ?_
  refine G.bipush (10 : Int32) dX10_addPerson_8 kb_10 ?_
  refine G.icmp_ge 37 dX10_addPerson_10 (by decide) h (fun c3 h => ?_) (fun c3 h => ?_)
  · exact G.vretW dX10_addPerson_37 rfl h
  · refine G.aload_n dX10_addPerson_13 rfl rfl ?_
    refine G.getR dX10_addPerson_14 fkX10_15 fr10_1 h (fun v4 h => ?_)
    refine G.iload_n dX10_addPerson_17 rfl rfl ?_
    refine G.iload_n dX10_addPerson_18 rfl rfl ?_
    refine G.iast dX10_addPerson_19 h (fun M5 h => ?_)
    refine G.aload_n dX10_addPerson_20 rfl rfl ?_
    refine G.getR dX10_addPerson_21 fkX10_18 fr10_2 h (fun v6 h => ?_)
    refine G.iload_n dX10_addPerson_24 rfl rfl ?_
    refine G.iload_n dX10_addPerson_25 rfl rfl ?_
    refine G.iast dX10_addPerson_26 h (fun M7 h => ?_)
    refine G.aload_n dX10_addPerson_27 rfl rfl ?_
    refine G.getR dX10_addPerson_28 fkX10_9 fr10_0 h (fun v8 h => ?_)
    refine G.iconst (1 : Int32) dX10_addPerson_31 ki_1 ?_
    refine G.dup2 dX10_addPerson_32 rfl rfl ?_
    refine G.iald dX10_addPerson_33 h (fun v9 h => ?_)
    refine G.iconst (1 : Int32) dX10_addPerson_34 ki_1 ?_
    refine G.iadd dX10_addPerson_35 ?_
    refine G.iast dX10_addPerson_36 h (fun M10 h => ?_)
    exact G.vretW dX10_addPerson_37 rfl h
-- OnlyUpward$Teller.tellBeing(LOnlyUpward$World;II)V
set_option maxRecDepth 100000 in
set_option maxHeartbeats 4000000 in
def F_X8_tellBeing (n : Nat) (M : AM) (a0 : Nat) (a1 : Nat) (a2 : Int32) (a3 : Int32) : Option AM :=
  (rcv 8 M a0 (F_X8_newName n M a0 a1 a2 (a3 + (1 : Int32)))).bind fun M2 => if a2 = 0 then (rcv 10 M2 a1 (F_X10_addPlace n M2 a1)).bind fun M5 => some M5 else (rcv 8 M2 a0 (F_X8_within n M2 a0 (a3 + (2 : Int32)) (0 : Int32) (99 : Int32))).bind fun v6 => if a2 = (2 : Int32) then (rcv 10 v6.2 a1 (F_X10_addThing n v6.2 a1 v6.1)).bind fun M9 => some M9 else (gR 8 0 v6.2 a0).bind fun v10 => (rcv 9 v6.2 v10 (F_X9_kindAt n v6.2 v10 (a3 + (3 : Int32)))).bind fun v11 => jn (fun (u12 : Int32) => jn (fun (u13 : Int32) (M14 : AM) => (rcv 10 M14 a1 (F_X10_addPerson n M14 a1 v6.1 u13)).bind fun M16 => some M16) fun j17 => if u12 = 0 then j17 (99 : Int32) v6.2 else (rcv 8 v6.2 a0 (F_X8_within n v6.2 a0 (a3 + (4 : Int32)) (0 : Int32) (23 : Int32))).bind fun v19 => j17 v19.1 v19.2) fun j20 => if v11 = (11 : Int32) then j20 (1 : Int32) else j20 (0 : Int32)
set_option maxRecDepth 100000 in
set_option maxHeartbeats 4000000 in
theorem C_X8_tellBeing {n : Nat} {M : AM} {a0 : Nat} {a1 : Nat} {a2 : Int32} {a3 : Int32} {o : AM} (h : F_X8_tellBeing n M a0 a1 a2 a3 = some o) : Cn yX8_tellBeing cX8_tellBeing 6 none 3 [.ref a0, .ref a1, .int a2, .int a3] M none o := by
  unfold F_X8_tellBeing at h
  refine Cn.of rfl (Nat.le_of_ble_eq_true rfl) ?_
  show G yX8_tellBeing cX8_tellBeing 6 none 3 0 [(0, .ref a0), (1, .ref a1), (2, .int a2), (3, .int a3)] [] M none o
  refine G.aload_n dX8_tellBeing_0 rfl rfl ?_
  refine G.aload_n dX8_tellBeing_1 rfl rfl ?_
  refine G.iload_n dX8_tellBeing_2 rfl rfl ?_
  refine G.iload_n dX8_tellBeing_3 rfl rfl ?_
  refine G.iconst (1 : Int32) dX8_tellBeing_4 ki_1 ?_
  refine G.iadd dX8_tellBeing_5 ?_
  refine G.callVv (ci := 8) [.ref a1, .int a2, .int (a3 + (1 : Int32))] [] dX8_tellBeing_6 lkX8_57 okX8_newName rfl (fun v hv => C_X8_newName hv) (Nat.le_of_ble_eq_true rfl) rfl rfl (Nat.le_of_ble_eq_true rfl) h (fun M2 h => ?_)
  refine G.iload_n dX8_tellBeing_9 rfl rfl ?_
  refine G.if_ne 18 dX8_tellBeing_10 (by decide) h (fun c3 h => ?_) (fun c3 h => ?_)
  · refine G.aload_n dX8_tellBeing_13 rfl rfl ?_
    refine G.callVv (ci := 10) [] [] dX8_tellBeing_14 lkX8_84 okX10_addPlace rfl (fun v hv => C_X10_addPlace hv) (Nat.le_of_ble_eq_true rfl) rfl rfl (Nat.le_of_ble_eq_true rfl) h (fun M5 h => ?_)
    exact G.vretW dX8_tellBeing_17 rfl h
  · refine G.aload_n dX8_tellBeing_18 rfl rfl ?_
    refine G.iload_n dX8_tellBeing_19 rfl rfl ?_
    refine G.iconst (2 : Int32) dX8_tellBeing_20 ki_2 ?_
    refine G.iadd dX8_tellBeing_21 ?_
    refine G.iconst (0 : Int32) dX8_tellBeing_22 ki_0 ?_
    refine G.bipush (99 : Int32) dX8_tellBeing_23 kb_99 ?_
    refine G.callVi (ci := 8) [.int (a3 + (2 : Int32)), .int (0 : Int32), .int (99 : Int32)] [] dX8_tellBeing_25 lkX8_64 okX8_within rfl (fun v hv => C_X8_within hv) (Nat.le_of_ble_eq_true rfl) rfl rfl (Nat.le_of_ble_eq_true rfl) h (fun v6 h => ?_)
    refine G.istore (lv' := [(4, .int v6.1), (0, .ref a0), (1, .ref a1), (2, .int a2), (3, .int a3)]) dX8_tellBeing_28 (Nat.le_of_ble_eq_true rfl) rfl ?_
    refine G.iload_n dX8_tellBeing_30 rfl rfl ?_
    refine G.iconst (2 : Int32) dX8_tellBeing_31 ki_2 ?_
    refine G.icmp_ne 42 dX8_tellBeing_32 (by decide) h (fun c7 h => ?_) (fun c7 h => ?_)
    · refine G.aload_n dX8_tellBeing_35 rfl rfl ?_
      refine G.iload dX8_tellBeing_36 rfl ?_
      refine G.callVv (ci := 10) [.int v6.1] [] dX8_tellBeing_38 lkX8_87 okX10_addThing rfl (fun v hv => C_X10_addThing hv) (Nat.le_of_ble_eq_true rfl) rfl rfl (Nat.le_of_ble_eq_true rfl) h (fun M9 h => ?_)
      exact G.vretW dX8_tellBeing_41 rfl h
    · refine G.aload_n dX8_tellBeing_42 rfl rfl ?_
      refine G.getR dX8_tellBeing_43 fkX8_32 fr8_0 h (fun v10 h => ?_)
      refine G.iload_n dX8_tellBeing_46 rfl rfl ?_
      refine G.iconst (3 : Int32) dX8_tellBeing_47 ki_3 ?_
      refine G.iadd dX8_tellBeing_48 ?_
      refine G.callVi (ci := 9) [.int (a3 + (3 : Int32))] [] dX8_tellBeing_49 lkX8_43 okX9_kindAt rfl (fun v hv => C_X9_kindAt hv) (Nat.le_of_ble_eq_true rfl) rfl rfl (Nat.le_of_ble_eq_true rfl) h (fun v11 h => ?_)
      refine G.bipush (11 : Int32) dX8_tellBeing_52 kb_11 ?_
      refine jn_elim (fun j20 => ∀ (u12 : Int32), j20 u12 = some o → G yX8_tellBeing cX8_tellBeing 6 none 3 62 [(0, .ref a0), (1, .ref a1), (3, .int a3), (4, .int v6.1)] [.int u12] v6.2 none o) h ?_ ?_
      · intro u12 h
        refine G.istore (lv' := [(5, .int u12), (0, .ref a0), (1, .ref a1), (3, .int a3), (4, .int v6.1)]) dX8_tellBeing_62 (Nat.le_of_ble_eq_true rfl) rfl ?_
        refine G.aload_n dX8_tellBeing_64 rfl rfl ?_
        refine G.iload dX8_tellBeing_65 rfl ?_
        refine G.iload dX8_tellBeing_67 rfl ?_
        refine jn_elim (fun j17 => ∀ (u13 : Int32) (M14 : AM), j17 u13 M14 = some o → G yX8_tellBeing cX8_tellBeing 6 none 3 87 [] [.int u13, .int v6.1, .ref a1] M14 none o) h ?_ ?_
        · intro u13 M14 h
          refine G.callVv (ci := 10) [.int v6.1, .int u13] [] dX8_tellBeing_87 lkX8_90 okX10_addPerson rfl (fun v hv => C_X10_addPerson hv) (Nat.le_of_ble_eq_true rfl) rfl rfl (Nat.le_of_ble_eq_true rfl) h (fun M16 h => ?_)
          exact G.vretW dX8_tellBeing_90 rfl h
        · intro j17 Jj17 h
          refine G.if_eq 85 dX8_tellBeing_69 (by decide) h (fun c18 h => ?_) (fun c18 h => ?_)
          · refine G.bipush (99 : Int32) dX8_tellBeing_85 kb_99 ?_
            refine G.sub (lv' := []) [] rfl ?_
            exact Jj17 _ _ h
          · refine G.aload_n dX8_tellBeing_72 rfl rfl ?_
            refine G.iload_n dX8_tellBeing_73 rfl rfl ?_
            refine G.iconst (4 : Int32) dX8_tellBeing_74 ki_4 ?_
            refine G.iadd dX8_tellBeing_75 ?_
            refine G.iconst (0 : Int32) dX8_tellBeing_76 ki_0 ?_
            refine G.bipush (23 : Int32) dX8_tellBeing_77 kb_23 ?_
            refine G.callVi (ci := 8) [.int (a3 + (4 : Int32)), .int (0 : Int32), .int (23 : Int32)] [.int v6.1, .ref a1] dX8_tellBeing_79 lkX8_64 okX8_within rfl (fun v hv => C_X8_within hv) (Nat.le_of_ble_eq_true rfl) rfl rfl (Nat.le_of_ble_eq_true rfl) h (fun v19 h => ?_)
            refine G.goto 87 dX8_tellBeing_82 (by decide) ?_
            refine G.sub (lv' := []) [] rfl ?_
            exact Jj17 _ _ h
      · intro j20 Jj20 h
        refine G.icmp_ne 61 dX8_tellBeing_54 (by decide) h (fun c21 h => ?_) (fun c21 h => ?_)
        · refine G.iconst (1 : Int32) dX8_tellBeing_57 ki_1 ?_
          refine G.goto 62 dX8_tellBeing_58 (by decide) ?_
          refine G.sub (lv' := [(0, .ref a0), (1, .ref a1), (3, .int a3), (4, .int v6.1)]) [1, 2, 4, 0] rfl ?_
          exact Jj20 _ h
        · refine G.iconst (0 : Int32) dX8_tellBeing_61 ki_0 ?_
          refine G.sub (lv' := [(0, .ref a0), (1, .ref a1), (3, .int a3), (4, .int v6.1)]) [1, 2, 4, 0] rfl ?_
          exact Jj20 _ h
-- OnlyUpward$Teller.oldName(II)I
set_option maxRecDepth 100000 in
set_option maxHeartbeats 4000000 in
def F_X8_oldName (n : Nat) (M : AM) (a0 : Nat) (a1 : Int32) (a2 : Int32) : Option (Int32 × AM) :=
  (rcv 8 M a0 (F_X8_find n M a0 a2)).bind fun v1 => jn ((rcv 8 M a0 (F_X8_refuse n M a0 (4 : Int32) a2)).bind fun M3 => some ((0 : Int32), M3)) fun j4 => if v1 = (-1 : Int32) then j4 else (gR 8 2 M a0).bind fun v6 => (rdI M v6 v1).bind fun v7 => if v7 = a1 then (gR 8 3 M a0).bind fun v9 => (rdI M v9 v1).bind fun v10 => some (v10, M) else j4
set_option maxRecDepth 100000 in
set_option maxHeartbeats 4000000 in
theorem C_X8_oldName {n : Nat} {M : AM} {a0 : Nat} {a1 : Int32} {a2 : Int32} {o : (Int32 × AM)} (h : F_X8_oldName n M a0 a1 a2 = some o) : Cn yX8_oldName cX8_oldName 4 (some .int) 2 [.ref a0, .int a1, .int a2] M (some (.int o.1)) o.2 := by
  unfold F_X8_oldName at h
  refine Cn.of rfl (Nat.le_of_ble_eq_true rfl) ?_
  show G yX8_oldName cX8_oldName 4 (some .int) 2 0 [(0, .ref a0), (1, .int a1), (2, .int a2)] [] M (some (.int o.1)) o.2
  refine G.aload_n dX8_oldName_0 rfl rfl ?_
  refine G.iload_n dX8_oldName_1 rfl rfl ?_
  refine G.callVi (ci := 8) [.int a2] [] dX8_oldName_2 lkX8_118 okX8_find rfl (fun v hv => C_X8_find hv) (Nat.le_of_ble_eq_true rfl) rfl rfl (Nat.le_of_ble_eq_true rfl) h (fun v1 h => ?_)
  refine G.istore_n (lv' := [(3, .int v1), (0, .ref a0), (1, .int a1), (2, .int a2)]) dX8_oldName_5 rfl (Nat.le_of_ble_eq_true rfl) rfl ?_
  refine G.iload_n dX8_oldName_6 rfl rfl ?_
  refine G.iconst (-1 : Int32) dX8_oldName_7 ki_m1 ?_
  refine jn_elim (fun j4 => j4 = some o → G yX8_oldName cX8_oldName 4 (some .int) 2 21 [(0, .ref a0), (2, .int a2)] [] M (some (.int o.1)) o.2) h ?_ ?_
  · intro h
    refine G.aload_n dX8_oldName_21 rfl rfl ?_
    refine G.iconst (4 : Int32) dX8_oldName_22 ki_4 ?_
    refine G.iload_n dX8_oldName_23 rfl rfl ?_
    refine G.callVv (ci := 8) [.int (4 : Int32), .int a2] [] dX8_oldName_24 lkX8_93 okX8_refuse rfl (fun v hv => C_X8_refuse hv) (Nat.le_of_ble_eq_true rfl) rfl rfl (Nat.le_of_ble_eq_true rfl) h (fun M3 h => ?_)
    refine G.iconst (0 : Int32) dX8_oldName_27 ki_0 ?_
    exact G.iretW dX8_oldName_28 rfl (rfl) h
  · intro j4 Jj4 h
    refine G.icmp_eq 21 dX8_oldName_8 (by decide) h (fun c5 h => ?_) (fun c5 h => ?_)
    · refine G.sub (lv' := [(0, .ref a0), (2, .int a2)]) [1, 3] rfl ?_
      exact Jj4  h
    · refine G.aload_n dX8_oldName_11 rfl rfl ?_
      refine G.getR dX8_oldName_12 fkX8_15 fr8_2 h (fun v6 h => ?_)
      refine G.iload_n dX8_oldName_15 rfl rfl ?_
      refine G.iald dX8_oldName_16 h (fun v7 h => ?_)
      refine G.iload_n dX8_oldName_17 rfl rfl ?_
      refine G.icmp_eq 29 dX8_oldName_18 (by decide) h (fun c8 h => ?_) (fun c8 h => ?_)
      · refine G.aload_n dX8_oldName_29 rfl rfl ?_
        refine G.getR dX8_oldName_30 fkX8_19 fr8_3 h (fun v9 h => ?_)
        refine G.iload_n dX8_oldName_33 rfl rfl ?_
        refine G.iald dX8_oldName_34 h (fun v10 h => ?_)
        exact G.iretW dX8_oldName_35 rfl (rfl) h
      · refine G.sub (lv' := [(0, .ref a0), (2, .int a2)]) [1, 3] rfl ?_
        exact Jj4  h
-- OnlyUpward$World.addThin(II)V
set_option maxRecDepth 100000 in
set_option maxHeartbeats 4000000 in
def F_X10_addThin (n : Nat) (M : AM) (a0 : Nat) (a1 : Int32) (a2 : Int32) : Option AM :=
  (gR 10 0 M a0).bind fun v1 => (rdI M v1 (3 : Int32)).bind fun v2 => (wrI M v1 (3 : Int32) (v2 + (1 : Int32))).bind fun M3 => (gR 10 4 M3 a0).bind fun v4 => (rdI M3 v4 a1).bind fun v5 => (wrI M3 v4 a1 (v5 ||| ((1 : Int32) <<< (a2 &&& 31)))).bind fun M6 => (gR 10 4 M6 a0).bind fun v7 => (rdI M6 v7 a2).bind fun v8 => (wrI M6 v7 a2 (v8 ||| ((1 : Int32) <<< (a1 &&& 31)))).bind fun M9 => some M9
set_option maxRecDepth 100000 in
set_option maxHeartbeats 4000000 in
theorem C_X10_addThin {n : Nat} {M : AM} {a0 : Nat} {a1 : Int32} {a2 : Int32} {o : AM} (h : F_X10_addThin n M a0 a1 a2 = some o) : Cn yX10_addThin cX10_addThin 3 none 0 [.ref a0, .int a1, .int a2] M none o := by
  unfold F_X10_addThin at h
  refine Cn.of rfl (Nat.le_of_ble_eq_true rfl) ?_
  show G yX10_addThin cX10_addThin 3 none 0 0 [(0, .ref a0), (1, .int a1), (2, .int a2)] [] M none o
  refine G.aload_n dX10_addThin_0 rfl rfl ?_
  refine G.getR dX10_addThin_1 fkX10_9 fr10_0 h (fun v1 h => ?_)
  refine G.iconst (3 : Int32) dX10_addThin_4 ki_3 ?_
  refine G.dup2 dX10_addThin_5 rfl rfl ?_
  refine G.iald dX10_addThin_6 h (fun v2 h => ?_)
  refine G.iconst (1 : Int32) dX10_addThin_7 ki_1 ?_
  refine G.iadd dX10_addThin_8 ?_
  refine G.iast dX10_addThin_9 h (fun M3 h => ?_)
  refine G.aload_n dX10_addThin_10 rfl rfl ?_
  refine G.getR dX10_addThin_11 fkX10_24 fr10_4 h (fun v4 h => ?_)
  refine G.iload_n dX10_addThin_14 rfl rfl ?_
  refine G.dup2 dX10_addThin_15 rfl rfl ?_
  refine G.iald dX10_addThin_16 h (fun v5 h => ?_)
  refine G.iconst (1 : Int32) dX10_addThin_17 ki_1 ?_
  refine G.iload_n dX10_addThin_18 rfl rfl ?_
  refine G.ishl dX10_addThin_19 ?_
  refine G.ior dX10_addThin_20 ?_
  refine G.iast dX10_addThin_21 h (fun M6 h => ?_)
  refine G.aload_n dX10_addThin_22 rfl rfl ?_
  refine G.getR dX10_addThin_23 fkX10_24 fr10_4 h (fun v7 h => ?_)
  refine G.iload_n dX10_addThin_26 rfl rfl ?_
  refine G.dup2 dX10_addThin_27 rfl rfl ?_
  refine G.iald dX10_addThin_28 h (fun v8 h => ?_)
  refine G.iconst (1 : Int32) dX10_addThin_29 ki_1 ?_
  refine G.iload_n dX10_addThin_30 rfl rfl ?_
  refine G.ishl dX10_addThin_31 ?_
  refine G.ior dX10_addThin_32 ?_
  refine G.iast dX10_addThin_33 h (fun M9 h => ?_)
  exact G.vretW dX10_addThin_34 rfl h
-- OnlyUpward$World.addStay(IIII)V
set_option maxRecDepth 100000 in
set_option maxHeartbeats 4000000 in
def F_X10_addStay (n : Nat) (M : AM) (a0 : Nat) (a1 : Int32) (a2 : Int32) (a3 : Int32) (a4 : Int32) : Option AM :=
  (gR 10 0 M a0).bind fun v1 => (rdI M v1 (4 : Int32)).bind fun v2 => (wrI M v1 (4 : Int32) (v2 + (1 : Int32))).bind fun M3 => (iter (fun (s4 : Int32 × AM) => if a4 < s4.1 then some (.inr s4.2) else (gR 10 13 s4.2 a0).bind fun v6 => (wrI s4.2 v6 ((a1 * (24 : Int32)) + s4.1) a2).bind fun M7 => some (.inl ((s4.1 + (1 : Int32)), M7))) n (a3, M3)).bind fun (e4 : AM) => some e4
set_option maxRecDepth 100000 in
set_option maxHeartbeats 4000000 in
theorem C_X10_addStay {n : Nat} {M : AM} {a0 : Nat} {a1 : Int32} {a2 : Int32} {a3 : Int32} {a4 : Int32} {o : AM} (h : F_X10_addStay n M a0 a1 a2 a3 a4 = some o) : Cn yX10_addStay cX10_addStay 6 none 0 [.ref a0, .int a1, .int a2, .int a3, .int a4] M none o := by
  unfold F_X10_addStay at h
  refine Cn.of rfl (Nat.le_of_ble_eq_true rfl) ?_
  show G yX10_addStay cX10_addStay 6 none 0 0 [(0, .ref a0), (1, .int a1), (2, .int a2), (3, .int a3), (4, .int a4)] [] M none o
  refine G.aload_n dX10_addStay_0 rfl rfl ?_
  refine G.getR dX10_addStay_1 fkX10_9 fr10_0 h (fun v1 h => ?_)
  refine G.iconst (4 : Int32) dX10_addStay_4 ki_4 ?_
  refine G.dup2 dX10_addStay_5 rfl rfl ?_
  refine G.iald dX10_addStay_6 h (fun v2 h => ?_)
  refine G.iconst (1 : Int32) dX10_addStay_7 ki_1 ?_
  refine G.iadd dX10_addStay_8 ?_
  refine G.iast dX10_addStay_9 h (fun M3 h => ?_)
  refine G.iload_n dX10_addStay_10 rfl rfl ?_
  refine G.istore (lv' := [(5, .int a3), (0, .ref a0), (1, .int a1), (2, .int a2), (3, .int a3), (4, .int a4)]) dX10_addStay_11 (Nat.le_of_ble_eq_true rfl) rfl ?_
  refine G.sub (lv' := [(0, .ref a0), (1, .int a1), (2, .int a2), (4, .int a4), (5, .int a3)]) [1, 2, 3, 5, 0] rfl ?_
  refine loopE (fun (s4 : Int32 × AM) => G yX10_addStay cX10_addStay 6 none 0 13 [(0, .ref a0), (1, .int a1), (2, .int a2), (4, .int a4), (5, .int s4.1)] [] s4.2 none o) (fun (e4 : AM) => G yX10_addStay cX10_addStay 6 none 0 39 [] [] e4 none o) h ?_ ?_
  · intro e4 h
    show G yX10_addStay cX10_addStay 6 none 0 39 [] [] e4 none o
    exact G.vretW dX10_addStay_39 rfl h
  · intro s4 x4 h K4
    show G yX10_addStay cX10_addStay 6 none 0 13 [(0, .ref a0), (1, .int a1), (2, .int a2), (4, .int a4), (5, .int s4.1)] [] s4.2 none o
    refine G.iload dX10_addStay_13 rfl ?_
    refine G.iload dX10_addStay_15 rfl ?_
    refine G.icmp_gt 39 dX10_addStay_17 (by decide) h (fun c5 h => ?_) (fun c5 h => ?_)
    · refine G.sub (lv' := []) [] rfl ?_
      have h := leafR' h K4
      exact h
    · refine G.aload_n dX10_addStay_20 rfl rfl ?_
      refine G.getR dX10_addStay_21 fkX10_55 fr10_13 h (fun v6 h => ?_)
      refine G.iload_n dX10_addStay_24 rfl rfl ?_
      refine G.bipush (24 : Int32) dX10_addStay_25 kb_24 ?_
      refine G.imul dX10_addStay_27 ?_
      refine G.iload dX10_addStay_28 rfl ?_
      refine G.iadd dX10_addStay_30 ?_
      refine G.iload_n dX10_addStay_31 rfl rfl ?_
      refine G.iast dX10_addStay_32 h (fun M7 h => ?_)
      refine G.iinc s4.1 (w := (s4.1 + (1 : Int32))) (lv' := [(5, .int (s4.1 + (1 : Int32))), (0, .ref a0), (1, .int a1), (2, .int a2), (4, .int a4)]) dX10_addStay_33 rfl rfl (Nat.le_of_ble_eq_true rfl) rfl ?_
      refine G.goto 13 dX10_addStay_36 (by decide) ?_
      refine G.sub (lv' := [(0, .ref a0), (1, .int a1), (2, .int a2), (4, .int a4), (5, .int (s4.1 + (1 : Int32)))]) [1, 2, 3, 4, 0] rfl ?_
      have h := leafL' h K4
      exact h
-- OnlyUpward$Teller.tellPlacing(LOnlyUpward$World;II)V
set_option maxRecDepth 100000 in
set_option maxHeartbeats 4000000 in
def F_X8_tellPlacing (n : Nat) (M : AM) (a0 : Nat) (a1 : Nat) (a2 : Int32) (a3 : Int32) : Option AM :=
  jn (fun (u1 : Int32) => (rcv 8 M a0 (F_X8_oldName n M a0 u1 (a3 + (1 : Int32)))).bind fun v2 => (rcv 8 v2.2 a0 (F_X8_oldName n v2.2 a0 (0 : Int32) (a3 + (2 : Int32)))).bind fun v3 => if a2 = (3 : Int32) then jn (fun (M5 : AM) => (rcv 10 M5 a1 (F_X10_addThin n M5 a1 v2.1 v3.1)).bind fun M7 => some M7) fun j8 => if v2.1 = v3.1 then (rcv 8 v3.2 a0 (F_X8_refuse n v3.2 a0 (5 : Int32) (a3 + (2 : Int32)))).bind fun M11 => j8 M11 else j8 v3.2 else (rcv 8 v3.2 a0 (F_X8_within n v3.2 a0 (a3 + (3 : Int32)) (0 : Int32) (23 : Int32))).bind fun v12 => (rcv 8 v12.2 a0 (F_X8_within n v12.2 a0 (a3 + (4 : Int32)) v12.1 (23 : Int32))).bind fun v13 => (rcv 10 v13.2 a1 (F_X10_addStay n v13.2 a1 v2.1 v3.1 v12.1 v13.1)).bind fun M15 => some M15) fun j16 => if a2 = (3 : Int32) then j16 (0 : Int32) else j16 (1 : Int32)
set_option maxRecDepth 100000 in
set_option maxHeartbeats 4000000 in
theorem C_X8_tellPlacing {n : Nat} {M : AM} {a0 : Nat} {a1 : Nat} {a2 : Int32} {a3 : Int32} {o : AM} (h : F_X8_tellPlacing n M a0 a1 a2 a3 = some o) : Cn yX8_tellPlacing cX8_tellPlacing 7 none 3 [.ref a0, .ref a1, .int a2, .int a3] M none o := by
  unfold F_X8_tellPlacing at h
  refine Cn.of rfl (Nat.le_of_ble_eq_true rfl) ?_
  show G yX8_tellPlacing cX8_tellPlacing 7 none 3 0 [(0, .ref a0), (1, .ref a1), (2, .int a2), (3, .int a3)] [] M none o
  refine G.aload_n dX8_tellPlacing_0 rfl rfl ?_
  refine G.iload_n dX8_tellPlacing_1 rfl rfl ?_
  refine G.iconst (3 : Int32) dX8_tellPlacing_2 ki_3 ?_
  refine jn_elim (fun j16 => ∀ (u1 : Int32), j16 u1 = some o → G yX8_tellPlacing cX8_tellPlacing 7 none 3 11 [(0, .ref a0), (1, .ref a1), (2, .int a2), (3, .int a3)] [.int u1, .ref a0] M none o) h ?_ ?_
  · intro u1 h
    refine G.iload_n dX8_tellPlacing_11 rfl rfl ?_
    refine G.iconst (1 : Int32) dX8_tellPlacing_12 ki_1 ?_
    refine G.iadd dX8_tellPlacing_13 ?_
    refine G.callVi (ci := 8) [.int u1, .int (a3 + (1 : Int32))] [] dX8_tellPlacing_14 lkX8_60 okX8_oldName rfl (fun v hv => C_X8_oldName hv) (Nat.le_of_ble_eq_true rfl) rfl rfl (Nat.le_of_ble_eq_true rfl) h (fun v2 h => ?_)
    refine G.istore (lv' := [(4, .int v2.1), (0, .ref a0), (1, .ref a1), (2, .int a2), (3, .int a3)]) dX8_tellPlacing_17 (Nat.le_of_ble_eq_true rfl) rfl ?_
    refine G.aload_n dX8_tellPlacing_19 rfl rfl ?_
    refine G.iconst (0 : Int32) dX8_tellPlacing_20 ki_0 ?_
    refine G.iload_n dX8_tellPlacing_21 rfl rfl ?_
    refine G.iconst (2 : Int32) dX8_tellPlacing_22 ki_2 ?_
    refine G.iadd dX8_tellPlacing_23 ?_
    refine G.callVi (ci := 8) [.int (0 : Int32), .int (a3 + (2 : Int32))] [] dX8_tellPlacing_24 lkX8_60 okX8_oldName rfl (fun v hv => C_X8_oldName hv) (Nat.le_of_ble_eq_true rfl) rfl rfl (Nat.le_of_ble_eq_true rfl) h (fun v3 h => ?_)
    refine G.istore (lv' := [(5, .int v3.1), (4, .int v2.1), (0, .ref a0), (1, .ref a1), (2, .int a2), (3, .int a3)]) dX8_tellPlacing_27 (Nat.le_of_ble_eq_true rfl) rfl ?_
    refine G.iload_n dX8_tellPlacing_29 rfl rfl ?_
    refine G.iconst (3 : Int32) dX8_tellPlacing_30 ki_3 ?_
    refine G.icmp_ne 58 dX8_tellPlacing_31 (by decide) h (fun c4 h => ?_) (fun c4 h => ?_)
    · refine G.iload dX8_tellPlacing_34 rfl ?_
      refine G.iload dX8_tellPlacing_36 rfl ?_
      refine jn_elim (fun j8 => ∀ (M5 : AM), j8 M5 = some o → G yX8_tellPlacing cX8_tellPlacing 7 none 3 49 [(1, .ref a1), (4, .int v2.1), (5, .int v3.1)] [] M5 none o) h ?_ ?_
      · intro M5 h
        refine G.aload_n dX8_tellPlacing_49 rfl rfl ?_
        refine G.iload dX8_tellPlacing_50 rfl ?_
        refine G.iload dX8_tellPlacing_52 rfl ?_
        refine G.callVv (ci := 10) [.int v2.1, .int v3.1] [] dX8_tellPlacing_54 lkX8_96 okX10_addThin rfl (fun v hv => C_X10_addThin hv) (Nat.le_of_ble_eq_true rfl) rfl rfl (Nat.le_of_ble_eq_true rfl) h (fun M7 h => ?_)
        exact G.vretW dX8_tellPlacing_57 rfl h
      · intro j8 Jj8 h
        refine G.icmp_ne 49 dX8_tellPlacing_38 (by decide) h (fun c9 h => ?_) (fun c9 h => ?_)
        · refine G.aload_n dX8_tellPlacing_41 rfl rfl ?_
          refine G.iconst (5 : Int32) dX8_tellPlacing_42 ki_5 ?_
          refine G.iload_n dX8_tellPlacing_43 rfl rfl ?_
          refine G.iconst (2 : Int32) dX8_tellPlacing_44 ki_2 ?_
          refine G.iadd dX8_tellPlacing_45 ?_
          refine G.callVv (ci := 8) [.int (5 : Int32), .int (a3 + (2 : Int32))] [] dX8_tellPlacing_46 lkX8_93 okX8_refuse rfl (fun v hv => C_X8_refuse hv) (Nat.le_of_ble_eq_true rfl) rfl rfl (Nat.le_of_ble_eq_true rfl) h (fun M11 h => ?_)
          refine G.sub (lv' := [(1, .ref a1), (4, .int v2.1), (5, .int v3.1)]) [3, 1, 0] rfl ?_
          exact Jj8 _ h
        · refine G.sub (lv' := [(1, .ref a1), (4, .int v2.1), (5, .int v3.1)]) [3, 1, 0] rfl ?_
          exact Jj8 _ h
    · refine G.aload_n dX8_tellPlacing_58 rfl rfl ?_
      refine G.iload_n dX8_tellPlacing_59 rfl rfl ?_
      refine G.iconst (3 : Int32) dX8_tellPlacing_60 ki_3 ?_
      refine G.iadd dX8_tellPlacing_61 ?_
      refine G.iconst (0 : Int32) dX8_tellPlacing_62 ki_0 ?_
      refine G.bipush (23 : Int32) dX8_tellPlacing_63 kb_23 ?_
      refine G.callVi (ci := 8) [.int (a3 + (3 : Int32)), .int (0 : Int32), .int (23 : Int32)] [] dX8_tellPlacing_65 lkX8_64 okX8_within rfl (fun v hv => C_X8_within hv) (Nat.le_of_ble_eq_true rfl) rfl rfl (Nat.le_of_ble_eq_true rfl) h (fun v12 h => ?_)
      refine G.istore (lv' := [(6, .int v12.1), (5, .int v3.1), (4, .int v2.1), (0, .ref a0), (1, .ref a1), (2, .int a2), (3, .int a3)]) dX8_tellPlacing_68 (Nat.le_of_ble_eq_true rfl) rfl ?_
      refine G.aload_n dX8_tellPlacing_70 rfl rfl ?_
      refine G.iload dX8_tellPlacing_71 rfl ?_
      refine G.iload dX8_tellPlacing_73 rfl ?_
      refine G.iload dX8_tellPlacing_75 rfl ?_
      refine G.aload_n dX8_tellPlacing_77 rfl rfl ?_
      refine G.iload_n dX8_tellPlacing_78 rfl rfl ?_
      refine G.iconst (4 : Int32) dX8_tellPlacing_79 ki_4 ?_
      refine G.iadd dX8_tellPlacing_80 ?_
      refine G.iload dX8_tellPlacing_81 rfl ?_
      refine G.bipush (23 : Int32) dX8_tellPlacing_83 kb_23 ?_
      refine G.callVi (ci := 8) [.int (a3 + (4 : Int32)), .int v12.1, .int (23 : Int32)] [.int v12.1, .int v3.1, .int v2.1, .ref a1] dX8_tellPlacing_85 lkX8_64 okX8_within rfl (fun v hv => C_X8_within hv) (Nat.le_of_ble_eq_true rfl) rfl rfl (Nat.le_of_ble_eq_true rfl) h (fun v13 h => ?_)
      refine G.callVv (ci := 10) [.int v2.1, .int v3.1, .int v12.1, .int v13.1] [] dX8_tellPlacing_88 lkX8_99 okX10_addStay rfl (fun v hv => C_X10_addStay hv) (Nat.le_of_ble_eq_true rfl) rfl rfl (Nat.le_of_ble_eq_true rfl) h (fun M15 h => ?_)
      exact G.vretW dX8_tellPlacing_91 rfl h
  · intro j16 Jj16 h
    refine G.icmp_ne 10 dX8_tellPlacing_3 (by decide) h (fun c17 h => ?_) (fun c17 h => ?_)
    · refine G.iconst (0 : Int32) dX8_tellPlacing_6 ki_0 ?_
      refine G.goto 11 dX8_tellPlacing_7 (by decide) ?_
      refine G.sub (lv' := [(0, .ref a0), (1, .ref a1), (2, .int a2), (3, .int a3)]) [0, 1, 2, 3] rfl ?_
      exact Jj16 _ h
    · refine G.iconst (1 : Int32) dX8_tellPlacing_10 ki_1 ?_
      refine G.sub (lv' := [(0, .ref a0), (1, .ref a1), (2, .int a2), (3, .int a3)]) [0, 1, 2, 3] rfl ?_
      exact Jj16 _ h
-- OnlyUpward$World.addKnown(II)V
set_option maxRecDepth 100000 in
set_option maxHeartbeats 4000000 in
def F_X10_addKnown (n : Nat) (M : AM) (a0 : Nat) (a1 : Int32) (a2 : Int32) : Option AM :=
  (gR 10 0 M a0).bind fun v1 => (rdI M v1 (5 : Int32)).bind fun v2 => (wrI M v1 (5 : Int32) (v2 + (1 : Int32))).bind fun M3 => (gR 10 5 M3 a0).bind fun v4 => (rdI M3 v4 a1).bind fun v5 => (wrI M3 v4 a1 (v5 ||| ((1 : Int32) <<< (a2 &&& 31)))).bind fun M6 => some M6
set_option maxRecDepth 100000 in
set_option maxHeartbeats 4000000 in
theorem C_X10_addKnown {n : Nat} {M : AM} {a0 : Nat} {a1 : Int32} {a2 : Int32} {o : AM} (h : F_X10_addKnown n M a0 a1 a2 = some o) : Cn yX10_addKnown cX10_addKnown 3 none 0 [.ref a0, .int a1, .int a2] M none o := by
  unfold F_X10_addKnown at h
  refine Cn.of rfl (Nat.le_of_ble_eq_true rfl) ?_
  show G yX10_addKnown cX10_addKnown 3 none 0 0 [(0, .ref a0), (1, .int a1), (2, .int a2)] [] M none o
  refine G.aload_n dX10_addKnown_0 rfl rfl ?_
  refine G.getR dX10_addKnown_1 fkX10_9 fr10_0 h (fun v1 h => ?_)
  refine G.iconst (5 : Int32) dX10_addKnown_4 ki_5 ?_
  refine G.dup2 dX10_addKnown_5 rfl rfl ?_
  refine G.iald dX10_addKnown_6 h (fun v2 h => ?_)
  refine G.iconst (1 : Int32) dX10_addKnown_7 ki_1 ?_
  refine G.iadd dX10_addKnown_8 ?_
  refine G.iast dX10_addKnown_9 h (fun M3 h => ?_)
  refine G.aload_n dX10_addKnown_10 rfl rfl ?_
  refine G.getR dX10_addKnown_11 fkX10_27 fr10_5 h (fun v4 h => ?_)
  refine G.iload_n dX10_addKnown_14 rfl rfl ?_
  refine G.dup2 dX10_addKnown_15 rfl rfl ?_
  refine G.iald dX10_addKnown_16 h (fun v5 h => ?_)
  refine G.iconst (1 : Int32) dX10_addKnown_17 ki_1 ?_
  refine G.iload_n dX10_addKnown_18 rfl rfl ?_
  refine G.ishl dX10_addKnown_19 ?_
  refine G.ior dX10_addKnown_20 ?_
  refine G.iast dX10_addKnown_21 h (fun M6 h => ?_)
  exact G.vretW dX10_addKnown_22 rfl h
-- OnlyUpward$World.addMust(III)V
set_option maxRecDepth 100000 in
set_option maxHeartbeats 4000000 in
def F_X10_addMust (n : Nat) (M : AM) (a0 : Nat) (a1 : Int32) (a2 : Int32) (a3 : Int32) : Option AM :=
  (gR 10 0 M a0).bind fun v1 => (rdI M v1 (6 : Int32)).bind fun v2 => if (12 : Int32) ≤ v2 then some M else (gR 10 6 M a0).bind fun v4 => (wrI M v4 v2 a1).bind fun M5 => (gR 10 7 M5 a0).bind fun v6 => (wrI M5 v6 v2 a2).bind fun M7 => (gR 10 8 M7 a0).bind fun v8 => (wrI M7 v8 v2 a3).bind fun M9 => (gR 10 0 M9 a0).bind fun v10 => (rdI M9 v10 (6 : Int32)).bind fun v11 => (wrI M9 v10 (6 : Int32) (v11 + (1 : Int32))).bind fun M12 => some M12
set_option maxRecDepth 100000 in
set_option maxHeartbeats 4000000 in
theorem C_X10_addMust {n : Nat} {M : AM} {a0 : Nat} {a1 : Int32} {a2 : Int32} {a3 : Int32} {o : AM} (h : F_X10_addMust n M a0 a1 a2 a3 = some o) : Cn yX10_addMust cX10_addMust 5 none 0 [.ref a0, .int a1, .int a2, .int a3] M none o := by
  unfold F_X10_addMust at h
  refine Cn.of rfl (Nat.le_of_ble_eq_true rfl) ?_
  show G yX10_addMust cX10_addMust 5 none 0 0 [(0, .ref a0), (1, .int a1), (2, .int a2), (3, .int a3)] [] M none o
  refine G.aload_n dX10_addMust_0 rfl rfl ?_
  refine G.getR dX10_addMust_1 fkX10_9 fr10_0 h (fun v1 h => ?_)
  refine G.bipush (6 : Int32) dX10_addMust_4 kb_6 ?_
  refine G.iald dX10_addMust_6 h (fun v2 h => ?_)
  refine G.istore (lv' := [(4, .int v2), (0, .ref a0), (1, .int a1), (2, .int a2), (3, .int a3)]) dX10_addMust_7 (Nat.le_of_ble_eq_true rfl) rfl ?_
  refine G.iload dX10_addMust_9 rfl ?_
  refine G.bipush (12 : Int32) dX10_addMust_11 kb_12 ?_
  refine G.icmp_ge 51 dX10_addMust_13 (by decide) h (fun c3 h => ?_) (fun c3 h => ?_)
  · exact G.vretW dX10_addMust_51 rfl h
  · refine G.aload_n dX10_addMust_16 rfl rfl ?_
    refine G.getR dX10_addMust_17 fkX10_30 fr10_6 h (fun v4 h => ?_)
    refine G.iload dX10_addMust_20 rfl ?_
    refine G.iload_n dX10_addMust_22 rfl rfl ?_
    refine G.iast dX10_addMust_23 h (fun M5 h => ?_)
    refine G.aload_n dX10_addMust_24 rfl rfl ?_
    refine G.getR dX10_addMust_25 fkX10_33 fr10_7 h (fun v6 h => ?_)
    refine G.iload dX10_addMust_28 rfl ?_
    refine G.iload_n dX10_addMust_30 rfl rfl ?_
    refine G.iast dX10_addMust_31 h (fun M7 h => ?_)
    refine G.aload_n dX10_addMust_32 rfl rfl ?_
    refine G.getR dX10_addMust_33 fkX10_36 fr10_8 h (fun v8 h => ?_)
    refine G.iload dX10_addMust_36 rfl ?_
    refine G.iload_n dX10_addMust_38 rfl rfl ?_
    refine G.iast dX10_addMust_39 h (fun M9 h => ?_)
    refine G.aload_n dX10_addMust_40 rfl rfl ?_
    refine G.getR dX10_addMust_41 fkX10_9 fr10_0 h (fun v10 h => ?_)
    refine G.bipush (6 : Int32) dX10_addMust_44 kb_6 ?_
    refine G.dup2 dX10_addMust_46 rfl rfl ?_
    refine G.iald dX10_addMust_47 h (fun v11 h => ?_)
    refine G.iconst (1 : Int32) dX10_addMust_48 ki_1 ?_
    refine G.iadd dX10_addMust_49 ?_
    refine G.iast dX10_addMust_50 h (fun M12 h => ?_)
    exact G.vretW dX10_addMust_51 rfl h
-- OnlyUpward$Teller.tellKnowing(LOnlyUpward$World;II)V
set_option maxRecDepth 100000 in
set_option maxHeartbeats 4000000 in
def F_X8_tellKnowing (n : Nat) (M : AM) (a0 : Nat) (a1 : Nat) (a2 : Int32) (a3 : Int32) : Option AM :=
  (rcv 8 M a0 (F_X8_oldName n M a0 (1 : Int32) (a3 + (1 : Int32)))).bind fun v1 => (rcv 8 v1.2 a0 (F_X8_oldName n v1.2 a0 (2 : Int32) (a3 + (2 : Int32)))).bind fun v2 => if a2 = (5 : Int32) then (rcv 10 v2.2 a1 (F_X10_addKnown n v2.2 a1 v1.1 v2.1)).bind fun M5 => some M5 else (rcv 8 v2.2 a0 (F_X8_within n v2.2 a0 (a3 + (3 : Int32)) (0 : Int32) (23 : Int32))).bind fun v6 => (rcv 10 v6.2 a1 (F_X10_addMust n v6.2 a1 v1.1 v2.1 v6.1)).bind fun M8 => some M8
set_option maxRecDepth 100000 in
set_option maxHeartbeats 4000000 in
theorem C_X8_tellKnowing {n : Nat} {M : AM} {a0 : Nat} {a1 : Nat} {a2 : Int32} {a3 : Int32} {o : AM} (h : F_X8_tellKnowing n M a0 a1 a2 a3 = some o) : Cn yX8_tellKnowing cX8_tellKnowing 6 none 3 [.ref a0, .ref a1, .int a2, .int a3] M none o := by
  unfold F_X8_tellKnowing at h
  refine Cn.of rfl (Nat.le_of_ble_eq_true rfl) ?_
  show G yX8_tellKnowing cX8_tellKnowing 6 none 3 0 [(0, .ref a0), (1, .ref a1), (2, .int a2), (3, .int a3)] [] M none o
  refine G.aload_n dX8_tellKnowing_0 rfl rfl ?_
  refine G.iconst (1 : Int32) dX8_tellKnowing_1 ki_1 ?_
  refine G.iload_n dX8_tellKnowing_2 rfl rfl ?_
  refine G.iconst (1 : Int32) dX8_tellKnowing_3 ki_1 ?_
  refine G.iadd dX8_tellKnowing_4 ?_
  refine G.callVi (ci := 8) [.int (1 : Int32), .int (a3 + (1 : Int32))] [] dX8_tellKnowing_5 lkX8_60 okX8_oldName rfl (fun v hv => C_X8_oldName hv) (Nat.le_of_ble_eq_true rfl) rfl rfl (Nat.le_of_ble_eq_true rfl) h (fun v1 h => ?_)
  refine G.istore (lv' := [(4, .int v1.1), (0, .ref a0), (1, .ref a1), (2, .int a2), (3, .int a3)]) dX8_tellKnowing_8 (Nat.le_of_ble_eq_true rfl) rfl ?_
  refine G.aload_n dX8_tellKnowing_10 rfl rfl ?_
  refine G.iconst (2 : Int32) dX8_tellKnowing_11 ki_2 ?_
  refine G.iload_n dX8_tellKnowing_12 rfl rfl ?_
  refine G.iconst (2 : Int32) dX8_tellKnowing_13 ki_2 ?_
  refine G.iadd dX8_tellKnowing_14 ?_
  refine G.callVi (ci := 8) [.int (2 : Int32), .int (a3 + (2 : Int32))] [] dX8_tellKnowing_15 lkX8_60 okX8_oldName rfl (fun v hv => C_X8_oldName hv) (Nat.le_of_ble_eq_true rfl) rfl rfl (Nat.le_of_ble_eq_true rfl) h (fun v2 h => ?_)
  refine G.istore (lv' := [(5, .int v2.1), (4, .int v1.1), (0, .ref a0), (1, .ref a1), (2, .int a2), (3, .int a3)]) dX8_tellKnowing_18 (Nat.le_of_ble_eq_true rfl) rfl ?_
  refine G.iload_n dX8_tellKnowing_20 rfl rfl ?_
  refine G.iconst (5 : Int32) dX8_tellKnowing_21 ki_5 ?_
  refine G.icmp_ne 36 dX8_tellKnowing_22 (by decide) h (fun c3 h => ?_) (fun c3 h => ?_)
  · refine G.aload_n dX8_tellKnowing_25 rfl rfl ?_
    refine G.iload dX8_tellKnowing_26 rfl ?_
    refine G.iload dX8_tellKnowing_28 rfl ?_
    refine G.callVv (ci := 10) [.int v1.1, .int v2.1] [] dX8_tellKnowing_30 lkX8_103 okX10_addKnown rfl (fun v hv => C_X10_addKnown hv) (Nat.le_of_ble_eq_true rfl) rfl rfl (Nat.le_of_ble_eq_true rfl) h (fun M5 h => ?_)
    refine G.goto 54 dX8_tellKnowing_33 (by decide) ?_
    exact G.vretW dX8_tellKnowing_54 rfl h
  · refine G.aload_n dX8_tellKnowing_36 rfl rfl ?_
    refine G.iload dX8_tellKnowing_37 rfl ?_
    refine G.iload dX8_tellKnowing_39 rfl ?_
    refine G.aload_n dX8_tellKnowing_41 rfl rfl ?_
    refine G.iload_n dX8_tellKnowing_42 rfl rfl ?_
    refine G.iconst (3 : Int32) dX8_tellKnowing_43 ki_3 ?_
    refine G.iadd dX8_tellKnowing_44 ?_
    refine G.iconst (0 : Int32) dX8_tellKnowing_45 ki_0 ?_
    refine G.bipush (23 : Int32) dX8_tellKnowing_46 kb_23 ?_
    refine G.callVi (ci := 8) [.int (a3 + (3 : Int32)), .int (0 : Int32), .int (23 : Int32)] [.int v2.1, .int v1.1, .ref a1] dX8_tellKnowing_48 lkX8_64 okX8_within rfl (fun v hv => C_X8_within hv) (Nat.le_of_ble_eq_true rfl) rfl rfl (Nat.le_of_ble_eq_true rfl) h (fun v6 h => ?_)
    refine G.callVv (ci := 10) [.int v1.1, .int v2.1, .int v6.1] [] dX8_tellKnowing_51 lkX8_106 okX10_addMust rfl (fun v hv => C_X10_addMust hv) (Nat.le_of_ble_eq_true rfl) rfl rfl (Nat.le_of_ble_eq_true rfl) h (fun M8 h => ?_)
    exact G.vretW dX8_tellKnowing_54 rfl h
-- OnlyUpward$World.addAct(II)V
set_option maxRecDepth 100000 in
set_option maxHeartbeats 4000000 in
def F_X10_addAct (n : Nat) (M : AM) (a0 : Nat) (a1 : Int32) (a2 : Int32) : Option AM :=
  (gR 10 0 M a0).bind fun v1 => (rdI M v1 (7 : Int32)).bind fun v2 => if (6 : Int32) ≤ v2 then some M else (gR 10 9 M a0).bind fun v4 => (wrI M v4 v2 a1).bind fun M5 => (gR 10 10 M5 a0).bind fun v6 => (wrI M5 v6 v2 a2).bind fun M7 => (gR 10 0 M7 a0).bind fun v8 => (rdI M7 v8 (7 : Int32)).bind fun v9 => (wrI M7 v8 (7 : Int32) (v9 + (1 : Int32))).bind fun M10 => some M10
set_option maxRecDepth 100000 in
set_option maxHeartbeats 4000000 in
theorem C_X10_addAct {n : Nat} {M : AM} {a0 : Nat} {a1 : Int32} {a2 : Int32} {o : AM} (h : F_X10_addAct n M a0 a1 a2 = some o) : Cn yX10_addAct cX10_addAct 4 none 0 [.ref a0, .int a1, .int a2] M none o := by
  unfold F_X10_addAct at h
  refine Cn.of rfl (Nat.le_of_ble_eq_true rfl) ?_
  show G yX10_addAct cX10_addAct 4 none 0 0 [(0, .ref a0), (1, .int a1), (2, .int a2)] [] M none o
  refine G.aload_n dX10_addAct_0 rfl rfl ?_
  refine G.getR dX10_addAct_1 fkX10_9 fr10_0 h (fun v1 h => ?_)
  refine G.bipush (7 : Int32) dX10_addAct_4 kb_7 ?_
  refine G.iald dX10_addAct_6 h (fun v2 h => ?_)
  refine G.istore_n (lv' := [(3, .int v2), (0, .ref a0), (1, .int a1), (2, .int a2)]) dX10_addAct_7 rfl (Nat.le_of_ble_eq_true rfl) rfl ?_
  refine G.iload_n dX10_addAct_8 rfl rfl ?_
  refine G.bipush (6 : Int32) dX10_addAct_9 kb_6 ?_
  refine G.icmp_ge 39 dX10_addAct_11 (by decide) h (fun c3 h => ?_) (fun c3 h => ?_)
  · exact G.vretW dX10_addAct_39 rfl h
  · refine G.aload_n dX10_addAct_14 rfl rfl ?_
    refine G.getR dX10_addAct_15 fkX10_39 fr10_9 h (fun v4 h => ?_)
    refine G.iload_n dX10_addAct_18 rfl rfl ?_
    refine G.iload_n dX10_addAct_19 rfl rfl ?_
    refine G.iast dX10_addAct_20 h (fun M5 h => ?_)
    refine G.aload_n dX10_addAct_21 rfl rfl ?_
    refine G.getR dX10_addAct_22 fkX10_42 fr10_10 h (fun v6 h => ?_)
    refine G.iload_n dX10_addAct_25 rfl rfl ?_
    refine G.iload_n dX10_addAct_26 rfl rfl ?_
    refine G.iast dX10_addAct_27 h (fun M7 h => ?_)
    refine G.aload_n dX10_addAct_28 rfl rfl ?_
    refine G.getR dX10_addAct_29 fkX10_9 fr10_0 h (fun v8 h => ?_)
    refine G.bipush (7 : Int32) dX10_addAct_32 kb_7 ?_
    refine G.dup2 dX10_addAct_34 rfl rfl ?_
    refine G.iald dX10_addAct_35 h (fun v9 h => ?_)
    refine G.iconst (1 : Int32) dX10_addAct_36 ki_1 ?_
    refine G.iadd dX10_addAct_37 ?_
    refine G.iast dX10_addAct_38 h (fun M10 h => ?_)
    exact G.vretW dX10_addAct_39 rfl h
-- OnlyUpward.hasBit(II)Z
set_option maxRecDepth 100000 in
set_option maxHeartbeats 4000000 in
def F_X11_hasBit (n : Nat) (M : AM) (a0 : Int32) (a1 : Int32) : Option Int32 :=
  if ((ush a0 a1) &&& (1 : Int32)) = (1 : Int32) then some (1 : Int32) else some (0 : Int32)
set_option maxRecDepth 100000 in
set_option maxHeartbeats 4000000 in
theorem C_X11_hasBit {n : Nat} {M : AM} {a0 : Int32} {a1 : Int32} {o : Int32} (h : F_X11_hasBit n M a0 a1 = some o) : Cn yX11_hasBit cX11_hasBit 2 (some .boolean) 0 [.int a0, .int a1] M (some (.int o)) M := by
  unfold F_X11_hasBit at h
  refine Cn.of rfl (Nat.le_of_ble_eq_true rfl) ?_
  show G yX11_hasBit cX11_hasBit 2 (some .boolean) 0 0 [(0, .int a0), (1, .int a1)] [] M (some (.int o)) M
  refine G.iload_n dX11_hasBit_0 rfl rfl ?_
  refine G.iload_n dX11_hasBit_1 rfl rfl ?_
  refine G.iushr dX11_hasBit_2 ?_
  refine G.iconst (1 : Int32) dX11_hasBit_3 ki_1 ?_
  refine G.iand dX11_hasBit_4 ?_
  refine G.iconst (1 : Int32) dX11_hasBit_5 ki_1 ?_
  refine G.icmp_ne 13 dX11_hasBit_6 (by decide) h (fun c1 h => ?_) (fun c1 h => ?_)
  · refine G.iconst (1 : Int32) dX11_hasBit_9 ki_1 ?_
    refine G.goto 14 dX11_hasBit_10 (by decide) ?_
    exact G.iret dX11_hasBit_14 rfl (by decide) h
  · refine G.iconst (0 : Int32) dX11_hasBit_13 ki_0 ?_
    exact G.iret dX11_hasBit_14 rfl (by decide) h
-- OnlyUpward$Teller.taskThings(I)I
set_option maxRecDepth 100000 in
set_option maxHeartbeats 4000000 in
def F_X8_taskThings (n : Nat) (M : AM) (a0 : Nat) (a1 : Int32) : Option (Int32 × AM) :=
  (iter (fun (s1 : Int32 × Int32 × AM) => (gR 8 0 s1.2.2 a0).bind fun v2 => (gI 9 4 s1.2.2 v2).bind fun v3 => if v3 ≤ s1.2.1 then some (.inr (s1.1, s1.2.2)) else (gR 8 0 s1.2.2 a0).bind fun v5 => (rcv 9 s1.2.2 v5 (F_X9_kindAt n s1.2.2 v5 s1.2.1)).bind fun v6 => if v6 = (20 : Int32) then (rcv 8 s1.2.2 a0 (F_X8_oldName n s1.2.2 a0 (2 : Int32) s1.2.1)).bind fun v8 => (F_X11_hasBit n v8.2 s1.1 v8.1).bind fun v9 => jn (fun (M10 : AM) => some (.inl ((s1.1 ||| ((1 : Int32) <<< (v8.1 &&& 31))), (s1.2.1 + (2 : Int32)), M10))) fun j11 => if v9 = 0 then j11 v8.2 else (rcv 8 v8.2 a0 (F_X8_refuse n v8.2 a0 (3 : Int32) s1.2.1)).bind fun M14 => j11 M14 else some (.inr (s1.1, s1.2.2))) n ((0 : Int32), a1, M)).bind fun (e1 : Int32 × AM) => some (e1.1, e1.2)
set_option maxRecDepth 100000 in
set_option maxHeartbeats 4000000 in
theorem C_X8_taskThings {n : Nat} {M : AM} {a0 : Nat} {a1 : Int32} {o : (Int32 × AM)} (h : F_X8_taskThings n M a0 a1 = some o) : Cn yX8_taskThings cX8_taskThings 5 (some .int) 3 [.ref a0, .int a1] M (some (.int o.1)) o.2 := by
  unfold F_X8_taskThings at h
  refine Cn.of rfl (Nat.le_of_ble_eq_true rfl) ?_
  show G yX8_taskThings cX8_taskThings 5 (some .int) 3 0 [(0, .ref a0), (1, .int a1)] [] M (some (.int o.1)) o.2
  refine G.iconst (0 : Int32) dX8_taskThings_0 ki_0 ?_
  refine G.istore_n (lv' := [(2, .int (0 : Int32)), (0, .ref a0), (1, .int a1)]) dX8_taskThings_1 rfl (Nat.le_of_ble_eq_true rfl) rfl ?_
  refine G.iload_n dX8_taskThings_2 rfl rfl ?_
  refine G.istore_n (lv' := [(3, .int a1), (2, .int (0 : Int32)), (0, .ref a0), (1, .int a1)]) dX8_taskThings_3 rfl (Nat.le_of_ble_eq_true rfl) rfl ?_
  refine G.sub (lv' := [(0, .ref a0), (2, .int (0 : Int32)), (3, .int a1)]) [2, 1, 0] rfl ?_
  refine loopE (fun (s1 : Int32 × Int32 × AM) => G yX8_taskThings cX8_taskThings 5 (some .int) 3 4 [(0, .ref a0), (2, .int s1.1), (3, .int s1.2.1)] [] s1.2.2 (some (.int o.1)) o.2) (fun (e1 : Int32 × AM) => G yX8_taskThings cX8_taskThings 5 (some .int) 3 64 [(2, .int e1.1)] [] e1.2 (some (.int o.1)) o.2) h ?_ ?_
  · intro e1 h
    show G yX8_taskThings cX8_taskThings 5 (some .int) 3 64 [(2, .int e1.1)] [] e1.2 (some (.int o.1)) o.2
    refine G.iload_n dX8_taskThings_64 rfl rfl ?_
    exact G.iretW dX8_taskThings_65 rfl (rfl) h
  · intro s1 x1 h K1
    show G yX8_taskThings cX8_taskThings 5 (some .int) 3 4 [(0, .ref a0), (2, .int s1.1), (3, .int s1.2.1)] [] s1.2.2 (some (.int o.1)) o.2
    refine G.iload_n dX8_taskThings_4 rfl rfl ?_
    refine G.aload_n dX8_taskThings_5 rfl rfl ?_
    refine G.getR dX8_taskThings_6 fkX8_32 fr8_0 h (fun v2 h => ?_)
    refine G.getI dX8_taskThings_9 fkX8_36 fr9_4 h (fun v3 h => ?_)
    refine G.icmp_ge 64 dX8_taskThings_12 (by decide) h (fun c4 h => ?_) (fun c4 h => ?_)
    · refine G.sub (lv' := [(2, .int s1.1)]) [1] rfl ?_
      have h := leafR' h K1
      exact h
    · refine G.aload_n dX8_taskThings_15 rfl rfl ?_
      refine G.getR dX8_taskThings_16 fkX8_32 fr8_0 h (fun v5 h => ?_)
      refine G.iload_n dX8_taskThings_19 rfl rfl ?_
      refine G.callVi (ci := 9) [.int s1.2.1] [] dX8_taskThings_20 lkX8_43 okX9_kindAt rfl (fun v hv => C_X9_kindAt hv) (Nat.le_of_ble_eq_true rfl) rfl rfl (Nat.le_of_ble_eq_true rfl) h (fun v6 h => ?_)
      refine G.bipush (20 : Int32) dX8_taskThings_23 kb_20 ?_
      refine G.icmp_ne 64 dX8_taskThings_25 (by decide) h (fun c7 h => ?_) (fun c7 h => ?_)
      · refine G.aload_n dX8_taskThings_28 rfl rfl ?_
        refine G.iconst (2 : Int32) dX8_taskThings_29 ki_2 ?_
        refine G.iload_n dX8_taskThings_30 rfl rfl ?_
        refine G.callVi (ci := 8) [.int (2 : Int32), .int s1.2.1] [] dX8_taskThings_31 lkX8_60 okX8_oldName rfl (fun v hv => C_X8_oldName hv) (Nat.le_of_ble_eq_true rfl) rfl rfl (Nat.le_of_ble_eq_true rfl) h (fun v8 h => ?_)
        refine G.istore (lv' := [(4, .int v8.1), (0, .ref a0), (2, .int s1.1), (3, .int s1.2.1)]) dX8_taskThings_34 (Nat.le_of_ble_eq_true rfl) rfl ?_
        refine G.iload_n dX8_taskThings_36 rfl rfl ?_
        refine G.iload dX8_taskThings_37 rfl ?_
        refine G.callSi [.int s1.1, .int v8.1] [] dX8_taskThings_39 lkX8_110 okX11_hasBit (fun v hv => C_X11_hasBit hv) (Nat.le_of_ble_eq_true rfl) rfl rfl (Nat.le_of_ble_eq_true rfl) h (fun v9 h => ?_)
        refine jn_elim (fun j11 => ∀ (M10 : AM), j11 M10 = some x1 → G yX8_taskThings cX8_taskThings 5 (some .int) 3 51 [(0, .ref a0), (2, .int s1.1), (3, .int s1.2.1), (4, .int v8.1)] [] M10 (some (.int o.1)) o.2) h ?_ ?_
        · intro M10 h
          refine G.iload_n dX8_taskThings_51 rfl rfl ?_
          refine G.iconst (1 : Int32) dX8_taskThings_52 ki_1 ?_
          refine G.iload dX8_taskThings_53 rfl ?_
          refine G.ishl dX8_taskThings_55 ?_
          refine G.ior dX8_taskThings_56 ?_
          refine G.istore_n (lv' := [(2, .int (s1.1 ||| ((1 : Int32) <<< (v8.1 &&& 31)))), (0, .ref a0), (3, .int s1.2.1), (4, .int v8.1)]) dX8_taskThings_57 rfl (Nat.le_of_ble_eq_true rfl) rfl ?_
          refine G.iinc s1.2.1 (w := (s1.2.1 + (2 : Int32))) (lv' := [(3, .int (s1.2.1 + (2 : Int32))), (2, .int (s1.1 ||| ((1 : Int32) <<< (v8.1 &&& 31)))), (0, .ref a0), (4, .int v8.1)]) dX8_taskThings_58 rfl rfl (Nat.le_of_ble_eq_true rfl) rfl ?_
          refine G.goto 4 dX8_taskThings_61 (by decide) ?_
          refine G.sub (lv' := [(0, .ref a0), (2, .int (s1.1 ||| ((1 : Int32) <<< (v8.1 &&& 31)))), (3, .int (s1.2.1 + (2 : Int32)))]) [2, 1, 0] rfl ?_
          have h := leafL' h K1
          exact h
        · intro j11 Jj11 h
          refine G.if_eq 51 dX8_taskThings_42 (by decide) h (fun c12 h => ?_) (fun c12 h => ?_)
          · refine G.sub (lv' := [(0, .ref a0), (2, .int s1.1), (3, .int s1.2.1), (4, .int v8.1)]) [1, 2, 3, 0] rfl ?_
            exact Jj11 _ h
          · refine G.aload_n dX8_taskThings_45 rfl rfl ?_
            refine G.iconst (3 : Int32) dX8_taskThings_46 ki_3 ?_
            refine G.iload_n dX8_taskThings_47 rfl rfl ?_
            refine G.callVv (ci := 8) [.int (3 : Int32), .int s1.2.1] [] dX8_taskThings_48 lkX8_93 okX8_refuse rfl (fun v hv => C_X8_refuse hv) (Nat.le_of_ble_eq_true rfl) rfl rfl (Nat.le_of_ble_eq_true rfl) h (fun M14 h => ?_)
            refine G.sub (lv' := [(0, .ref a0), (2, .int s1.1), (3, .int s1.2.1), (4, .int v8.1)]) [1, 2, 3, 0] rfl ?_
            exact Jj11 _ h
      · refine G.sub (lv' := [(2, .int s1.1)]) [1] rfl ?_
        have h := leafR' h K1
        exact h
-- OnlyUpward$World.addTask(I)V
set_option maxRecDepth 100000 in
set_option maxHeartbeats 4000000 in
def F_X10_addTask (n : Nat) (M : AM) (a0 : Nat) (a1 : Int32) : Option AM :=
  (gR 10 0 M a0).bind fun v1 => (rdI M v1 (8 : Int32)).bind fun v2 => if (4 : Int32) ≤ v2 then some M else (gR 10 11 M a0).bind fun v4 => (wrI M v4 v2 a1).bind fun M5 => (gR 10 0 M5 a0).bind fun v6 => (rdI M5 v6 (8 : Int32)).bind fun v7 => (wrI M5 v6 (8 : Int32) (v7 + (1 : Int32))).bind fun M8 => some M8
set_option maxRecDepth 100000 in
set_option maxHeartbeats 4000000 in
theorem C_X10_addTask {n : Nat} {M : AM} {a0 : Nat} {a1 : Int32} {o : AM} (h : F_X10_addTask n M a0 a1 = some o) : Cn yX10_addTask cX10_addTask 3 none 0 [.ref a0, .int a1] M none o := by
  unfold F_X10_addTask at h
  refine Cn.of rfl (Nat.le_of_ble_eq_true rfl) ?_
  show G yX10_addTask cX10_addTask 3 none 0 0 [(0, .ref a0), (1, .int a1)] [] M none o
  refine G.aload_n dX10_addTask_0 rfl rfl ?_
  refine G.getR dX10_addTask_1 fkX10_9 fr10_0 h (fun v1 h => ?_)
  refine G.bipush (8 : Int32) dX10_addTask_4 kb_8 ?_
  refine G.iald dX10_addTask_6 h (fun v2 h => ?_)
  refine G.istore_n (lv' := [(2, .int v2), (0, .ref a0), (1, .int a1)]) dX10_addTask_7 rfl (Nat.le_of_ble_eq_true rfl) rfl ?_
  refine G.iload_n dX10_addTask_8 rfl rfl ?_
  refine G.iconst (4 : Int32) dX10_addTask_9 ki_4 ?_
  refine G.icmp_ge 31 dX10_addTask_10 (by decide) h (fun c3 h => ?_) (fun c3 h => ?_)
  · exact G.vretW dX10_addTask_31 rfl h
  · refine G.aload_n dX10_addTask_13 rfl rfl ?_
    refine G.getR dX10_addTask_14 fkX10_45 fr10_11 h (fun v4 h => ?_)
    refine G.iload_n dX10_addTask_17 rfl rfl ?_
    refine G.iload_n dX10_addTask_18 rfl rfl ?_
    refine G.iast dX10_addTask_19 h (fun M5 h => ?_)
    refine G.aload_n dX10_addTask_20 rfl rfl ?_
    refine G.getR dX10_addTask_21 fkX10_9 fr10_0 h (fun v6 h => ?_)
    refine G.bipush (8 : Int32) dX10_addTask_24 kb_8 ?_
    refine G.dup2 dX10_addTask_26 rfl rfl ?_
    refine G.iald dX10_addTask_27 h (fun v7 h => ?_)
    refine G.iconst (1 : Int32) dX10_addTask_28 ki_1 ?_
    refine G.iadd dX10_addTask_29 ?_
    refine G.iast dX10_addTask_30 h (fun M8 h => ?_)
    exact G.vretW dX10_addTask_31 rfl h
-- OnlyUpward$Teller.tellOne(LOnlyUpward$World;I)V
set_option maxRecDepth 100000 in
set_option maxHeartbeats 4000000 in
def F_X8_tellOne (n : Nat) (M : AM) (a0 : Nat) (a1 : Nat) (a2 : Int32) : Option AM :=
  (gR 8 0 M a0).bind fun v1 => (rcv 9 M v1 (F_X9_kindAt n M v1 a2)).bind fun v2 => jn ((gR 10 0 M a1).bind fun v3 => (rdI M v3 v2).bind fun v4 => (wrI M v3 v2 (v4 + (1 : Int32))).bind fun M5 => some M5) fun j6 => jn ((rcv 8 M a0 (F_X8_tellKnowing n M a0 a1 v2 a2)).bind fun M8 => some M8) fun j9 => jn ((rcv 8 M a0 (F_X8_tellPlacing n M a0 a1 v2 a2)).bind fun M11 => some M11) fun j12 => jn ((rcv 8 M a0 (F_X8_tellBeing n M a0 a1 v2 a2)).bind fun M14 => some M14) fun j15 => if v2 = (0 : Int32) then j15 else if v2 = (1 : Int32) then j15 else if v2 = (2 : Int32) then j15 else if v2 = (3 : Int32) then j12 else if v2 = (4 : Int32) then j12 else if v2 = (5 : Int32) then j9 else if v2 = (6 : Int32) then j9 else if v2 = (7 : Int32) then (rcv 8 M a0 (F_X8_newName n M a0 a1 (7 : Int32) (a2 + (1 : Int32)))).bind fun M25 => (rcv 8 M25 a0 (F_X8_oldName n M25 a0 (2 : Int32) (a2 + (2 : Int32)))).bind fun v26 => (rcv 8 v26.2 a0 (F_X8_within n v26.2 a0 (a2 + (3 : Int32)) (1 : Int32) (99 : Int32))).bind fun v27 => (rcv 10 v27.2 a1 (F_X10_addAct n v27.2 a1 v26.1 v27.1)).bind fun M29 => some M29 else if v2 = (8 : Int32) then (rcv 8 M a0 (F_X8_newName n M a0 a1 (8 : Int32) (a2 + (1 : Int32)))).bind fun M32 => (rcv 8 M32 a0 (F_X8_taskThings n M32 a0 (a2 + (2 : Int32)))).bind fun v33 => (rcv 10 v33.2 a1 (F_X10_addTask n v33.2 a1 v33.1)).bind fun M35 => some M35 else if v2 = (9 : Int32) then j6 else if v2 = (10 : Int32) then j6 else some M
set_option maxRecDepth 100000 in
set_option maxHeartbeats 4000000 in
theorem C_X8_tellOne {n : Nat} {M : AM} {a0 : Nat} {a1 : Nat} {a2 : Int32} {o : AM} (h : F_X8_tellOne n M a0 a1 a2 = some o) : Cn yX8_tellOne cX8_tellOne 5 none 4 [.ref a0, .ref a1, .int a2] M none o := by
  unfold F_X8_tellOne at h
  refine Cn.of rfl (Nat.le_of_ble_eq_true rfl) ?_
  show G yX8_tellOne cX8_tellOne 5 none 4 0 [(0, .ref a0), (1, .ref a1), (2, .int a2)] [] M none o
  refine G.aload_n dX8_tellOne_0 rfl rfl ?_
  refine G.getR dX8_tellOne_1 fkX8_32 fr8_0 h (fun v1 h => ?_)
  refine G.iload_n dX8_tellOne_4 rfl rfl ?_
  refine G.callVi (ci := 9) [.int a2] [] dX8_tellOne_5 lkX8_43 okX9_kindAt rfl (fun v hv => C_X9_kindAt hv) (Nat.le_of_ble_eq_true rfl) rfl rfl (Nat.le_of_ble_eq_true rfl) h (fun v2 h => ?_)
  refine G.istore_n (lv' := [(3, .int v2), (0, .ref a0), (1, .ref a1), (2, .int a2)]) dX8_tellOne_8 rfl (Nat.le_of_ble_eq_true rfl) rfl ?_
  refine G.iload_n dX8_tellOne_9 rfl rfl ?_
  refine jn_elim (fun j6 => j6 = some o → G yX8_tellOne cX8_tellOne 5 none 4 161 [(1, .ref a1), (3, .int v2)] [] M none o) h ?_ ?_
  · intro h
    refine G.aload_n dX8_tellOne_161 rfl rfl ?_
    refine G.getR dX8_tellOne_162 fkX8_81 fr10_0 h (fun v3 h => ?_)
    refine G.iload_n dX8_tellOne_165 rfl rfl ?_
    refine G.dup2 dX8_tellOne_166 rfl rfl ?_
    refine G.iald dX8_tellOne_167 h (fun v4 h => ?_)
    refine G.iconst (1 : Int32) dX8_tellOne_168 ki_1 ?_
    refine G.iadd dX8_tellOne_169 ?_
    refine G.iast dX8_tellOne_170 h (fun M5 h => ?_)
    refine G.goto 174 dX8_tellOne_171 (by decide) ?_
    exact G.vretW dX8_tellOne_174 rfl h
  · intro j6 Jj6 h
    refine jn_elim (fun j9 => j9 = some o → G yX8_tellOne cX8_tellOne 5 none 4 88 [(0, .ref a0), (1, .ref a1), (2, .int a2), (3, .int v2)] [] M none o) h ?_ ?_
    · intro h
      refine G.aload_n dX8_tellOne_88 rfl rfl ?_
      refine G.aload_n dX8_tellOne_89 rfl rfl ?_
      refine G.iload_n dX8_tellOne_90 rfl rfl ?_
      refine G.iload_n dX8_tellOne_91 rfl rfl ?_
      refine G.callVv (ci := 8) [.ref a1, .int v2, .int a2] [] dX8_tellOne_92 lkX8_54 okX8_tellKnowing rfl (fun v hv => C_X8_tellKnowing hv) (Nat.le_of_ble_eq_true rfl) rfl rfl (Nat.le_of_ble_eq_true rfl) h (fun M8 h => ?_)
      refine G.goto 174 dX8_tellOne_95 (by decide) ?_
      exact G.vretW dX8_tellOne_174 rfl h
    · intro j9 Jj9 h
      refine jn_elim (fun j12 => j12 = some o → G yX8_tellOne cX8_tellOne 5 none 4 78 [(0, .ref a0), (1, .ref a1), (2, .int a2), (3, .int v2)] [] M none o) h ?_ ?_
      · intro h
        refine G.aload_n dX8_tellOne_78 rfl rfl ?_
        refine G.aload_n dX8_tellOne_79 rfl rfl ?_
        refine G.iload_n dX8_tellOne_80 rfl rfl ?_
        refine G.iload_n dX8_tellOne_81 rfl rfl ?_
        refine G.callVv (ci := 8) [.ref a1, .int v2, .int a2] [] dX8_tellOne_82 lkX8_51 okX8_tellPlacing rfl (fun v hv => C_X8_tellPlacing hv) (Nat.le_of_ble_eq_true rfl) rfl rfl (Nat.le_of_ble_eq_true rfl) h (fun M11 h => ?_)
        refine G.goto 174 dX8_tellOne_85 (by decide) ?_
        exact G.vretW dX8_tellOne_174 rfl h
      · intro j12 Jj12 h
        refine jn_elim (fun j15 => j15 = some o → G yX8_tellOne cX8_tellOne 5 none 4 68 [(0, .ref a0), (1, .ref a1), (2, .int a2), (3, .int v2)] [] M none o) h ?_ ?_
        · intro h
          refine G.aload_n dX8_tellOne_68 rfl rfl ?_
          refine G.aload_n dX8_tellOne_69 rfl rfl ?_
          refine G.iload_n dX8_tellOne_70 rfl rfl ?_
          refine G.iload_n dX8_tellOne_71 rfl rfl ?_
          refine G.callVv (ci := 8) [.ref a1, .int v2, .int a2] [] dX8_tellOne_72 lkX8_47 okX8_tellBeing rfl (fun v hv => C_X8_tellBeing hv) (Nat.le_of_ble_eq_true rfl) rfl rfl (Nat.le_of_ble_eq_true rfl) h (fun M14 h => ?_)
          refine G.goto 174 dX8_tellOne_75 (by decide) ?_
          exact G.vretW dX8_tellOne_174 rfl h
        · intro j15 Jj15 h
          refine G.sw h (fun c16 h => ?_) (fun c16 h => ?_)
          · refine G.tableIn 68 dX8_tellOne_10 (by rw [c16]; decide) (by rw [c16]; decide) (by rw [c16]; rfl) (by decide) ?_
            refine G.sub (lv' := [(0, .ref a0), (1, .ref a1), (2, .int a2), (3, .int v2)]) [1, 2, 3, 0] rfl ?_
            exact Jj15  h
          · refine G.sw h (fun c17 h => ?_) (fun c17 h => ?_)
            · refine G.tableIn 68 dX8_tellOne_10 (by rw [c17]; decide) (by rw [c17]; decide) (by rw [c17]; rfl) (by decide) ?_
              refine G.sub (lv' := [(0, .ref a0), (1, .ref a1), (2, .int a2), (3, .int v2)]) [1, 2, 3, 0] rfl ?_
              exact Jj15  h
            · refine G.sw h (fun c18 h => ?_) (fun c18 h => ?_)
              · refine G.tableIn 68 dX8_tellOne_10 (by rw [c18]; decide) (by rw [c18]; decide) (by rw [c18]; rfl) (by decide) ?_
                refine G.sub (lv' := [(0, .ref a0), (1, .ref a1), (2, .int a2), (3, .int v2)]) [1, 2, 3, 0] rfl ?_
                exact Jj15  h
              · refine G.sw h (fun c19 h => ?_) (fun c19 h => ?_)
                · refine G.tableIn 78 dX8_tellOne_10 (by rw [c19]; decide) (by rw [c19]; decide) (by rw [c19]; rfl) (by decide) ?_
                  refine G.sub (lv' := [(0, .ref a0), (1, .ref a1), (2, .int a2), (3, .int v2)]) [1, 2, 3, 0] rfl ?_
                  exact Jj12  h
                · refine G.sw h (fun c20 h => ?_) (fun c20 h => ?_)
                  · refine G.tableIn 78 dX8_tellOne_10 (by rw [c20]; decide) (by rw [c20]; decide) (by rw [c20]; rfl) (by decide) ?_
                    refine G.sub (lv' := [(0, .ref a0), (1, .ref a1), (2, .int a2), (3, .int v2)]) [1, 2, 3, 0] rfl ?_
                    exact Jj12  h
                  · refine G.sw h (fun c21 h => ?_) (fun c21 h => ?_)
                    · refine G.tableIn 88 dX8_tellOne_10 (by rw [c21]; decide) (by rw [c21]; decide) (by rw [c21]; rfl) (by decide) ?_
                      refine G.sub (lv' := [(0, .ref a0), (1, .ref a1), (2, .int a2), (3, .int v2)]) [1, 2, 3, 0] rfl ?_
                      exact Jj9  h
                    · refine G.sw h (fun c22 h => ?_) (fun c22 h => ?_)
                      · refine G.tableIn 88 dX8_tellOne_10 (by rw [c22]; decide) (by rw [c22]; decide) (by rw [c22]; rfl) (by decide) ?_
                        refine G.sub (lv' := [(0, .ref a0), (1, .ref a1), (2, .int a2), (3, .int v2)]) [1, 2, 3, 0] rfl ?_
                        exact Jj9  h
                      · refine G.sw h (fun c23 h => ?_) (fun c23 h => ?_)
                        · refine G.tableIn 98 dX8_tellOne_10 (by rw [c23]; decide) (by rw [c23]; decide) (by rw [c23]; rfl) (by decide) ?_
                          refine G.aload_n dX8_tellOne_98 rfl rfl ?_
                          refine G.aload_n dX8_tellOne_99 rfl rfl ?_
                          refine G.bipush (7 : Int32) dX8_tellOne_100 kb_7 ?_
                          refine G.iload_n dX8_tellOne_102 rfl rfl ?_
                          refine G.iconst (1 : Int32) dX8_tellOne_103 ki_1 ?_
                          refine G.iadd dX8_tellOne_104 ?_
                          refine G.callVv (ci := 8) [.ref a1, .int (7 : Int32), .int (a2 + (1 : Int32))] [] dX8_tellOne_105 lkX8_57 okX8_newName rfl (fun v hv => C_X8_newName hv) (Nat.le_of_ble_eq_true rfl) rfl rfl (Nat.le_of_ble_eq_true rfl) h (fun M25 h => ?_)
                          refine G.aload_n dX8_tellOne_108 rfl rfl ?_
                          refine G.iconst (2 : Int32) dX8_tellOne_109 ki_2 ?_
                          refine G.iload_n dX8_tellOne_110 rfl rfl ?_
                          refine G.iconst (2 : Int32) dX8_tellOne_111 ki_2 ?_
                          refine G.iadd dX8_tellOne_112 ?_
                          refine G.callVi (ci := 8) [.int (2 : Int32), .int (a2 + (2 : Int32))] [] dX8_tellOne_113 lkX8_60 okX8_oldName rfl (fun v hv => C_X8_oldName hv) (Nat.le_of_ble_eq_true rfl) rfl rfl (Nat.le_of_ble_eq_true rfl) h (fun v26 h => ?_)
                          refine G.istore (lv' := [(4, .int v26.1), (3, .int v2), (0, .ref a0), (1, .ref a1), (2, .int a2)]) dX8_tellOne_116 (Nat.le_of_ble_eq_true rfl) rfl ?_
                          refine G.aload_n dX8_tellOne_118 rfl rfl ?_
                          refine G.iload dX8_tellOne_119 rfl ?_
                          refine G.aload_n dX8_tellOne_121 rfl rfl ?_
                          refine G.iload_n dX8_tellOne_122 rfl rfl ?_
                          refine G.iconst (3 : Int32) dX8_tellOne_123 ki_3 ?_
                          refine G.iadd dX8_tellOne_124 ?_
                          refine G.iconst (1 : Int32) dX8_tellOne_125 ki_1 ?_
                          refine G.bipush (99 : Int32) dX8_tellOne_126 kb_99 ?_
                          refine G.callVi (ci := 8) [.int (a2 + (3 : Int32)), .int (1 : Int32), .int (99 : Int32)] [.int v26.1, .ref a1] dX8_tellOne_128 lkX8_64 okX8_within rfl (fun v hv => C_X8_within hv) (Nat.le_of_ble_eq_true rfl) rfl rfl (Nat.le_of_ble_eq_true rfl) h (fun v27 h => ?_)
                          refine G.callVv (ci := 10) [.int v26.1, .int v27.1] [] dX8_tellOne_131 lkX8_68 okX10_addAct rfl (fun v hv => C_X10_addAct hv) (Nat.le_of_ble_eq_true rfl) rfl rfl (Nat.le_of_ble_eq_true rfl) h (fun M29 h => ?_)
                          refine G.goto 174 dX8_tellOne_134 (by decide) ?_
                          exact G.vretW dX8_tellOne_174 rfl h
                        · refine G.sw h (fun c30 h => ?_) (fun c30 h => ?_)
                          · refine G.tableIn 137 dX8_tellOne_10 (by rw [c30]; decide) (by rw [c30]; decide) (by rw [c30]; rfl) (by decide) ?_
                            refine G.aload_n dX8_tellOne_137 rfl rfl ?_
                            refine G.aload_n dX8_tellOne_138 rfl rfl ?_
                            refine G.bipush (8 : Int32) dX8_tellOne_139 kb_8 ?_
                            refine G.iload_n dX8_tellOne_141 rfl rfl ?_
                            refine G.iconst (1 : Int32) dX8_tellOne_142 ki_1 ?_
                            refine G.iadd dX8_tellOne_143 ?_
                            refine G.callVv (ci := 8) [.ref a1, .int (8 : Int32), .int (a2 + (1 : Int32))] [] dX8_tellOne_144 lkX8_57 okX8_newName rfl (fun v hv => C_X8_newName hv) (Nat.le_of_ble_eq_true rfl) rfl rfl (Nat.le_of_ble_eq_true rfl) h (fun M32 h => ?_)
                            refine G.aload_n dX8_tellOne_147 rfl rfl ?_
                            refine G.aload_n dX8_tellOne_148 rfl rfl ?_
                            refine G.iload_n dX8_tellOne_149 rfl rfl ?_
                            refine G.iconst (2 : Int32) dX8_tellOne_150 ki_2 ?_
                            refine G.iadd dX8_tellOne_151 ?_
                            refine G.callVi (ci := 8) [.int (a2 + (2 : Int32))] [.ref a1] dX8_tellOne_152 lkX8_74 okX8_taskThings rfl (fun v hv => C_X8_taskThings hv) (Nat.le_of_ble_eq_true rfl) rfl rfl (Nat.le_of_ble_eq_true rfl) h (fun v33 h => ?_)
                            refine G.callVv (ci := 10) [.int v33.1] [] dX8_tellOne_155 lkX8_77 okX10_addTask rfl (fun v hv => C_X10_addTask hv) (Nat.le_of_ble_eq_true rfl) rfl rfl (Nat.le_of_ble_eq_true rfl) h (fun M35 h => ?_)
                            refine G.goto 174 dX8_tellOne_158 (by decide) ?_
                            exact G.vretW dX8_tellOne_174 rfl h
                          · refine G.sw h (fun c36 h => ?_) (fun c36 h => ?_)
                            · refine G.tableIn 161 dX8_tellOne_10 (by rw [c36]; decide) (by rw [c36]; decide) (by rw [c36]; rfl) (by decide) ?_
                              refine G.sub (lv' := [(1, .ref a1), (3, .int v2)]) [2, 0] rfl ?_
                              exact Jj6  h
                            · refine G.sw h (fun c37 h => ?_) (fun c37 h => ?_)
                              · refine G.tableIn 161 dX8_tellOne_10 (by rw [c37]; decide) (by rw [c37]; decide) (by rw [c37]; rfl) (by decide) ?_
                                refine G.sub (lv' := [(1, .ref a1), (3, .int v2)]) [2, 0] rfl ?_
                                exact Jj6  h
                              · refine G.tableOut 174 dX8_tellOne_10 (sw_out (lo := 0) (hi := 10) (fun z38 g1 g2 ge => ?_)) (by decide) ?_
                                · have hz : z38 = 0 ∨ z38 = 1 ∨ z38 = 2 ∨ z38 = 3 ∨ z38 = 4 ∨ z38 = 5 ∨ z38 = 6 ∨ z38 = 7 ∨ z38 = 8 ∨ z38 = 9 ∨ z38 = 10 := by omega
                                  rcases hz with rfl | rfl | rfl | rfl | rfl | rfl | rfl | rfl | rfl | rfl | rfl
                                  · exact c16 ge
                                  · exact c17 ge
                                  · exact c18 ge
                                  · exact c19 ge
                                  · exact c20 ge
                                  · exact c21 ge
                                  · exact c22 ge
                                  · exact c23 ge
                                  · exact c30 ge
                                  · exact c36 ge
                                  · exact c37 ge
                                · exact G.vretW dX8_tellOne_174 rfl h
-- OnlyUpward$Teller.tellAll(LOnlyUpward$World;)I
set_option maxRecDepth 100000 in
set_option maxHeartbeats 4000000 in
def F_X8_tellAll (n : Nat) (M : AM) (a0 : Nat) (a1 : Nat) : Option (Int32 × AM) :=
  (pI 8 4 M a0 (0 : Int32)).bind fun M1 => (pI 8 5 M1 a0 (0 : Int32)).bind fun M2 => (iter (fun (s3 : Int32 × Int32 × AM) => (gR 8 0 s3.2.2 a0).bind fun v4 => (gI 9 4 s3.2.2 v4).bind fun v5 => if v5 ≤ s3.2.1 then some (.inr s3.2.2) else (gI 8 5 s3.2.2 a0).bind fun v7 => if v7 = 0 then jn (fun (M9 : AM) => (gR 8 0 M9 a0).bind fun v10 => (rcv 9 M9 v10 (F_X9_kindAt n M9 v10 s3.2.1)).bind fun v11 => jn (fun (u12 : Int32) => some (.inl (u12, (s3.2.1 + (1 : Int32)), M9))) fun j13 => if v11 = (22 : Int32) then j13 (1 : Int32) else j13 (0 : Int32)) fun j15 => if s3.1 = 0 then j15 s3.2.2 else (rcv 8 s3.2.2 a0 (F_X8_tellOne n s3.2.2 a0 a1 s3.2.1)).bind fun M18 => j15 M18 else some (.inr s3.2.2)) n ((1 : Int32), (0 : Int32), M2)).bind fun (e3 : AM) => (gI 8 5 e3 a0).bind fun v19 => some (v19, e3)
set_option maxRecDepth 100000 in
set_option maxHeartbeats 4000000 in
theorem C_X8_tellAll {n : Nat} {M : AM} {a0 : Nat} {a1 : Nat} {o : (Int32 × AM)} (h : F_X8_tellAll n M a0 a1 = some o) : Cn yX8_tellAll cX8_tellAll 4 (some .int) 5 [.ref a0, .ref a1] M (some (.int o.1)) o.2 := by
  unfold F_X8_tellAll at h
  refine Cn.of rfl (Nat.le_of_ble_eq_true rfl) ?_
  show G yX8_tellAll cX8_tellAll 4 (some .int) 5 0 [(0, .ref a0), (1, .ref a1)] [] M (some (.int o.1)) o.2
  refine G.aload_n dX8_tellAll_0 rfl rfl ?_
  refine G.iconst (0 : Int32) dX8_tellAll_1 ki_0 ?_
  refine G.putI dX8_tellAll_2 fkX8_22 nf8_4 ft8_4 h (fun M1 h => ?_)
  refine G.aload_n dX8_tellAll_5 rfl rfl ?_
  refine G.iconst (0 : Int32) dX8_tellAll_6 ki_0 ?_
  refine G.putI dX8_tellAll_7 fkX8_26 nf8_5 ft8_5 h (fun M2 h => ?_)
  refine G.iconst (1 : Int32) dX8_tellAll_10 ki_1 ?_
  refine G.istore_n (lv' := [(2, .int (1 : Int32)), (0, .ref a0), (1, .ref a1)]) dX8_tellAll_11 rfl (Nat.le_of_ble_eq_true rfl) rfl ?_
  refine G.iconst (0 : Int32) dX8_tellAll_12 ki_0 ?_
  refine G.istore_n (lv' := [(3, .int (0 : Int32)), (2, .int (1 : Int32)), (0, .ref a0), (1, .ref a1)]) dX8_tellAll_13 rfl (Nat.le_of_ble_eq_true rfl) rfl ?_
  refine G.sub (lv' := [(0, .ref a0), (1, .ref a1), (2, .int (1 : Int32)), (3, .int (0 : Int32))]) [2, 3, 1, 0] rfl ?_
  refine loopE (fun (s3 : Int32 × Int32 × AM) => G yX8_tellAll cX8_tellAll 4 (some .int) 5 14 [(0, .ref a0), (1, .ref a1), (2, .int s3.1), (3, .int s3.2.1)] [] s3.2.2 (some (.int o.1)) o.2) (fun (e3 : AM) => G yX8_tellAll cX8_tellAll 4 (some .int) 5 67 [(0, .ref a0)] [] e3 (some (.int o.1)) o.2) h ?_ ?_
  · intro e3 h
    show G yX8_tellAll cX8_tellAll 4 (some .int) 5 67 [(0, .ref a0)] [] e3 (some (.int o.1)) o.2
    refine G.aload_n dX8_tellAll_67 rfl rfl ?_
    refine G.getI dX8_tellAll_68 fkX8_26 fr8_5 h (fun v19 h => ?_)
    exact G.iretW dX8_tellAll_71 rfl (rfl) h
  · intro s3 x3 h K3
    show G yX8_tellAll cX8_tellAll 4 (some .int) 5 14 [(0, .ref a0), (1, .ref a1), (2, .int s3.1), (3, .int s3.2.1)] [] s3.2.2 (some (.int o.1)) o.2
    refine G.iload_n dX8_tellAll_14 rfl rfl ?_
    refine G.aload_n dX8_tellAll_15 rfl rfl ?_
    refine G.getR dX8_tellAll_16 fkX8_32 fr8_0 h (fun v4 h => ?_)
    refine G.getI dX8_tellAll_19 fkX8_36 fr9_4 h (fun v5 h => ?_)
    refine G.icmp_ge 67 dX8_tellAll_22 (by decide) h (fun c6 h => ?_) (fun c6 h => ?_)
    · refine G.sub (lv' := [(0, .ref a0)]) [0] rfl ?_
      have h := leafR' h K3
      exact h
    · refine G.aload_n dX8_tellAll_25 rfl rfl ?_
      refine G.getI dX8_tellAll_26 fkX8_26 fr8_5 h (fun v7 h => ?_)
      refine G.if_ne 67 dX8_tellAll_29 (by decide) h (fun c8 h => ?_) (fun c8 h => ?_)
      · refine G.iload_n dX8_tellAll_32 rfl rfl ?_
        refine jn_elim (fun j15 => ∀ (M9 : AM), j15 M9 = some x3 → G yX8_tellAll cX8_tellAll 4 (some .int) 5 42 [(0, .ref a0), (1, .ref a1), (3, .int s3.2.1)] [] M9 (some (.int o.1)) o.2) h ?_ ?_
        · intro M9 h
          refine G.aload_n dX8_tellAll_42 rfl rfl ?_
          refine G.getR dX8_tellAll_43 fkX8_32 fr8_0 h (fun v10 h => ?_)
          refine G.iload_n dX8_tellAll_46 rfl rfl ?_
          refine G.callVi (ci := 9) [.int s3.2.1] [] dX8_tellAll_47 lkX8_43 okX9_kindAt rfl (fun v hv => C_X9_kindAt hv) (Nat.le_of_ble_eq_true rfl) rfl rfl (Nat.le_of_ble_eq_true rfl) h (fun v11 h => ?_)
          refine G.bipush (22 : Int32) dX8_tellAll_50 kb_22 ?_
          refine jn_elim (fun j13 => ∀ (u12 : Int32), j13 u12 = some x3 → G yX8_tellAll cX8_tellAll 4 (some .int) 5 60 [(0, .ref a0), (1, .ref a1), (3, .int s3.2.1)] [.int u12] M9 (some (.int o.1)) o.2) h ?_ ?_
          · intro u12 h
            refine G.istore_n (lv' := [(2, .int u12), (0, .ref a0), (1, .ref a1), (3, .int s3.2.1)]) dX8_tellAll_60 rfl (Nat.le_of_ble_eq_true rfl) rfl ?_
            refine G.iinc s3.2.1 (w := (s3.2.1 + (1 : Int32))) (lv' := [(3, .int (s3.2.1 + (1 : Int32))), (2, .int u12), (0, .ref a0), (1, .ref a1)]) dX8_tellAll_61 rfl rfl (Nat.le_of_ble_eq_true rfl) rfl ?_
            refine G.goto 14 dX8_tellAll_64 (by decide) ?_
            refine G.sub (lv' := [(0, .ref a0), (1, .ref a1), (2, .int u12), (3, .int (s3.2.1 + (1 : Int32)))]) [2, 3, 1, 0] rfl ?_
            have h := leafL' h K3
            exact h
          · intro j13 Jj13 h
            refine G.icmp_ne 59 dX8_tellAll_52 (by decide) h (fun c14 h => ?_) (fun c14 h => ?_)
            · refine G.iconst (1 : Int32) dX8_tellAll_55 ki_1 ?_
              refine G.goto 60 dX8_tellAll_56 (by decide) ?_
              refine G.sub (lv' := [(0, .ref a0), (1, .ref a1), (3, .int s3.2.1)]) [0, 1, 2] rfl ?_
              exact Jj13 _ h
            · refine G.iconst (0 : Int32) dX8_tellAll_59 ki_0 ?_
              refine G.sub (lv' := [(0, .ref a0), (1, .ref a1), (3, .int s3.2.1)]) [0, 1, 2] rfl ?_
              exact Jj13 _ h
        · intro j15 Jj15 h
          refine G.if_eq 42 dX8_tellAll_33 (by decide) h (fun c16 h => ?_) (fun c16 h => ?_)
          · refine G.sub (lv' := [(0, .ref a0), (1, .ref a1), (3, .int s3.2.1)]) [0, 1, 3] rfl ?_
            exact Jj15 _ h
          · refine G.aload_n dX8_tellAll_36 rfl rfl ?_
            refine G.aload_n dX8_tellAll_37 rfl rfl ?_
            refine G.iload_n dX8_tellAll_38 rfl rfl ?_
            refine G.callVv (ci := 8) [.ref a1, .int s3.2.1] [] dX8_tellAll_39 lkX8_39 okX8_tellOne rfl (fun v hv => C_X8_tellOne hv) (Nat.le_of_ble_eq_true rfl) rfl rfl (Nat.le_of_ble_eq_true rfl) h (fun M18 h => ?_)
            refine G.sub (lv' := [(0, .ref a0), (1, .ref a1), (3, .int s3.2.1)]) [0, 1, 3] rfl ?_
            exact Jj15 _ h
      · refine G.sub (lv' := [(0, .ref a0)]) [0] rfl ?_
        have h := leafR' h K3
        exact h
-- OnlyUpward$Tokens.placeAt(I)I
set_option maxRecDepth 100000 in
set_option maxHeartbeats 4000000 in
def F_X9_placeAt (n : Nat) (M : AM) (a0 : Nat) (a1 : Int32) : Option Int32 :=
  if a1 < 0 then some (0 : Int32) else (gI 9 4 M a0).bind fun v2 => if v2 ≤ a1 then some (0 : Int32) else (gR 9 1 M a0).bind fun v4 => (rdI M v4 a1).bind fun v5 => some v5
set_option maxRecDepth 100000 in
set_option maxHeartbeats 4000000 in
theorem C_X9_placeAt {n : Nat} {M : AM} {a0 : Nat} {a1 : Int32} {o : Int32} (h : F_X9_placeAt n M a0 a1 = some o) : Cn yX9_placeAt cX9_placeAt 2 (some .int) 0 [.ref a0, .int a1] M (some (.int o)) M := by
  unfold F_X9_placeAt at h
  refine Cn.of rfl (Nat.le_of_ble_eq_true rfl) ?_
  show G yX9_placeAt cX9_placeAt 2 (some .int) 0 0 [(0, .ref a0), (1, .int a1)] [] M (some (.int o)) M
  refine G.iload_n dX9_placeAt_0 rfl rfl ?_
  refine G.if_lt 21 dX9_placeAt_1 (by decide) h (fun c1 h => ?_) (fun c1 h => ?_)
  · refine G.iconst (0 : Int32) dX9_placeAt_21 ki_0 ?_
    exact G.iret dX9_placeAt_22 rfl (rfl) h
  · refine G.iload_n dX9_placeAt_4 rfl rfl ?_
    refine G.aload_n dX9_placeAt_5 rfl rfl ?_
    refine G.getI dX9_placeAt_6 fkX9_25 fr9_4 h (fun v2 h => ?_)
    refine G.icmp_ge 21 dX9_placeAt_9 (by decide) h (fun c3 h => ?_) (fun c3 h => ?_)
    · refine G.iconst (0 : Int32) dX9_placeAt_21 ki_0 ?_
      exact G.iret dX9_placeAt_22 rfl (rfl) h
    · refine G.aload_n dX9_placeAt_12 rfl rfl ?_
      refine G.getR dX9_placeAt_13 fkX9_15 fr9_1 h (fun v4 h => ?_)
      refine G.iload_n dX9_placeAt_16 rfl rfl ?_
      refine G.iald dX9_placeAt_17 h (fun v5 h => ?_)
      refine G.goto 22 dX9_placeAt_18 (by decide) ?_
      exact G.iret dX9_placeAt_22 rfl (rfl) h
-- OnlyUpward$World.standersWithin(II)I
set_option maxRecDepth 100000 in
set_option maxHeartbeats 4000000 in
def F_X10_standersWithin (n : Nat) (M : AM) (a0 : Nat) (a1 : Int32) (a2 : Int32) : Option Int32 :=
  (iter (fun (s1 : Int32 × Int32) => (gR 10 0 M a0).bind fun v2 => (rdI M v2 (0 : Int32)).bind fun v3 => if v3 ≤ s1.2 then some (.inr s1.1) else (F_X11_hasBit n M a1 s1.2).bind fun v5 => jn (fun (u6 : Int32) => some (.inl (u6, (s1.2 + (1 : Int32))))) fun j7 => if v5 = 0 then j7 s1.1 else (gR 10 14 M a0).bind fun v9 => (rdI M v9 ((s1.2 * (24 : Int32)) + a2)).bind fun v10 => j7 (s1.1 ||| v10)) n ((0 : Int32), (0 : Int32))).bind fun (e1 : Int32) => some e1
set_option maxRecDepth 100000 in
set_option maxHeartbeats 4000000 in
theorem C_X10_standersWithin {n : Nat} {M : AM} {a0 : Nat} {a1 : Int32} {a2 : Int32} {o : Int32} (h : F_X10_standersWithin n M a0 a1 a2 = some o) : Cn yX10_standersWithin cX10_standersWithin 5 (some .int) 1 [.ref a0, .int a1, .int a2] M (some (.int o)) M := by
  unfold F_X10_standersWithin at h
  refine Cn.of rfl (Nat.le_of_ble_eq_true rfl) ?_
  show G yX10_standersWithin cX10_standersWithin 5 (some .int) 1 0 [(0, .ref a0), (1, .int a1), (2, .int a2)] [] M (some (.int o)) M
  refine G.iconst (0 : Int32) dX10_standersWithin_0 ki_0 ?_
  refine G.istore_n (lv' := [(3, .int (0 : Int32)), (0, .ref a0), (1, .int a1), (2, .int a2)]) dX10_standersWithin_1 rfl (Nat.le_of_ble_eq_true rfl) rfl ?_
  refine G.iconst (0 : Int32) dX10_standersWithin_2 ki_0 ?_
  refine G.istore (lv' := [(4, .int (0 : Int32)), (3, .int (0 : Int32)), (0, .ref a0), (1, .int a1), (2, .int a2)]) dX10_standersWithin_3 (Nat.le_of_ble_eq_true rfl) rfl ?_
  refine G.sub (lv' := [(0, .ref a0), (1, .int a1), (2, .int a2), (3, .int (0 : Int32)), (4, .int (0 : Int32))]) [2, 3, 4, 1, 0] rfl ?_
  refine loopE (fun (s1 : Int32 × Int32) => G yX10_standersWithin cX10_standersWithin 5 (some .int) 1 5 [(0, .ref a0), (1, .int a1), (2, .int a2), (3, .int s1.1), (4, .int s1.2)] [] M (some (.int o)) M) (fun (e1 : Int32) => G yX10_standersWithin cX10_standersWithin 5 (some .int) 1 46 [(3, .int e1)] [] M (some (.int o)) M) h ?_ ?_
  · intro e1 h
    show G yX10_standersWithin cX10_standersWithin 5 (some .int) 1 46 [(3, .int e1)] [] M (some (.int o)) M
    refine G.iload_n dX10_standersWithin_46 rfl rfl ?_
    exact G.iret dX10_standersWithin_47 rfl (rfl) h
  · intro s1 x1 h K1
    show G yX10_standersWithin cX10_standersWithin 5 (some .int) 1 5 [(0, .ref a0), (1, .int a1), (2, .int a2), (3, .int s1.1), (4, .int s1.2)] [] M (some (.int o)) M
    refine G.iload dX10_standersWithin_5 rfl ?_
    refine G.aload_n dX10_standersWithin_7 rfl rfl ?_
    refine G.getR dX10_standersWithin_8 fkX10_9 fr10_0 h (fun v2 h => ?_)
    refine G.iconst (0 : Int32) dX10_standersWithin_11 ki_0 ?_
    refine G.iald dX10_standersWithin_12 h (fun v3 h => ?_)
    refine G.icmp_ge 46 dX10_standersWithin_13 (by decide) h (fun c4 h => ?_) (fun c4 h => ?_)
    · refine G.sub (lv' := [(3, .int s1.1)]) [3] rfl ?_
      have h := leafR' h K1
      exact h
    · refine G.iload_n dX10_standersWithin_16 rfl rfl ?_
      refine G.iload dX10_standersWithin_17 rfl ?_
      refine G.callSi [.int a1, .int s1.2] [] dX10_standersWithin_19 lkX10_97 okX11_hasBit (fun v hv => C_X11_hasBit hv) (Nat.le_of_ble_eq_true rfl) rfl rfl (Nat.le_of_ble_eq_true rfl) h (fun v5 h => ?_)
      refine jn_elim (fun j7 => ∀ (u6 : Int32), j7 u6 = some x1 → G yX10_standersWithin cX10_standersWithin 5 (some .int) 1 40 [(0, .ref a0), (1, .int a1), (2, .int a2), (3, .int u6), (4, .int s1.2)] [] M (some (.int o)) M) h ?_ ?_
      · intro u6 h
        refine G.iinc s1.2 (w := (s1.2 + (1 : Int32))) (lv' := [(4, .int (s1.2 + (1 : Int32))), (0, .ref a0), (1, .int a1), (2, .int a2), (3, .int u6)]) dX10_standersWithin_40 rfl rfl (Nat.le_of_ble_eq_true rfl) rfl ?_
        refine G.goto 5 dX10_standersWithin_43 (by decide) ?_
        refine G.sub (lv' := [(0, .ref a0), (1, .int a1), (2, .int a2), (3, .int u6), (4, .int (s1.2 + (1 : Int32)))]) [1, 2, 3, 4, 0] rfl ?_
        have h := leafL' h K1
        exact h
      · intro j7 Jj7 h
        refine G.if_eq 40 dX10_standersWithin_22 (by decide) h (fun c8 h => ?_) (fun c8 h => ?_)
        · refine G.sub (lv' := [(0, .ref a0), (1, .int a1), (2, .int a2), (3, .int s1.1), (4, .int s1.2)]) [0, 1, 2, 3, 4] rfl ?_
          exact Jj7 _ h
        · refine G.iload_n dX10_standersWithin_25 rfl rfl ?_
          refine G.aload_n dX10_standersWithin_26 rfl rfl ?_
          refine G.getR dX10_standersWithin_27 fkX10_58 fr10_14 h (fun v9 h => ?_)
          refine G.iload dX10_standersWithin_30 rfl ?_
          refine G.bipush (24 : Int32) dX10_standersWithin_32 kb_24 ?_
          refine G.imul dX10_standersWithin_34 ?_
          refine G.iload_n dX10_standersWithin_35 rfl rfl ?_
          refine G.iadd dX10_standersWithin_36 ?_
          refine G.iald dX10_standersWithin_37 h (fun v10 h => ?_)
          refine G.ior dX10_standersWithin_38 ?_
          refine G.istore_n (lv' := [(3, .int (s1.1 ||| v10)), (0, .ref a0), (1, .int a1), (2, .int a2), (4, .int s1.2)]) dX10_standersWithin_39 rfl (Nat.le_of_ble_eq_true rfl) rfl ?_
          refine G.sub (lv' := [(0, .ref a0), (1, .int a1), (2, .int a2), (3, .int (s1.1 ||| v10)), (4, .int s1.2)]) [1, 2, 3, 0, 4] rfl ?_
          exact Jj7 _ h
-- OnlyUpward$World.everybody()I
set_option maxRecDepth 100000 in
set_option maxHeartbeats 4000000 in
def F_X10_everybody (n : Nat) (M : AM) (a0 : Nat) : Option Int32 :=
  (gR 10 0 M a0).bind fun v1 => (rdI M v1 (1 : Int32)).bind fun v2 => some (((1 : Int32) <<< (v2 &&& 31)) - (1 : Int32))
set_option maxRecDepth 100000 in
set_option maxHeartbeats 4000000 in
theorem C_X10_everybody {n : Nat} {M : AM} {a0 : Nat} {o : Int32} (h : F_X10_everybody n M a0 = some o) : Cn yX10_everybody cX10_everybody 1 (some .int) 0 [.ref a0] M (some (.int o)) M := by
  unfold F_X10_everybody at h
  refine Cn.of rfl (Nat.le_of_ble_eq_true rfl) ?_
  show G yX10_everybody cX10_everybody 1 (some .int) 0 0 [(0, .ref a0)] [] M (some (.int o)) M
  refine G.iconst (1 : Int32) dX10_everybody_0 ki_1 ?_
  refine G.aload_n dX10_everybody_1 rfl rfl ?_
  refine G.getR dX10_everybody_2 fkX10_9 fr10_0 h (fun v1 h => ?_)
  refine G.iconst (1 : Int32) dX10_everybody_5 ki_1 ?_
  refine G.iald dX10_everybody_6 h (fun v2 h => ?_)
  refine G.ishl dX10_everybody_7 ?_
  refine G.iconst (1 : Int32) dX10_everybody_8 ki_1 ?_
  refine G.isub dX10_everybody_9 ?_
  exact G.iret dX10_everybody_10 rfl (rfl) h
-- OnlyUpward$World.placeOf(II)I
set_option maxRecDepth 100000 in
set_option maxHeartbeats 4000000 in
def F_X10_placeOf (n : Nat) (M : AM) (a0 : Nat) (a1 : Int32) (a2 : Int32) : Option Int32 :=
  (gR 10 13 M a0).bind fun v1 => (rdI M v1 ((a1 * (24 : Int32)) + a2)).bind fun v2 => some v2
set_option maxRecDepth 100000 in
set_option maxHeartbeats 4000000 in
theorem C_X10_placeOf {n : Nat} {M : AM} {a0 : Nat} {a1 : Int32} {a2 : Int32} {o : Int32} (h : F_X10_placeOf n M a0 a1 a2 = some o) : Cn yX10_placeOf cX10_placeOf 3 (some .int) 0 [.ref a0, .int a1, .int a2] M (some (.int o)) M := by
  unfold F_X10_placeOf at h
  refine Cn.of rfl (Nat.le_of_ble_eq_true rfl) ?_
  show G yX10_placeOf cX10_placeOf 3 (some .int) 0 0 [(0, .ref a0), (1, .int a1), (2, .int a2)] [] M (some (.int o)) M
  refine G.aload_n dX10_placeOf_0 rfl rfl ?_
  refine G.getR dX10_placeOf_1 fkX10_55 fr10_13 h (fun v1 h => ?_)
  refine G.iload_n dX10_placeOf_4 rfl rfl ?_
  refine G.bipush (24 : Int32) dX10_placeOf_5 kb_24 ?_
  refine G.imul dX10_placeOf_7 ?_
  refine G.iload_n dX10_placeOf_8 rfl rfl ?_
  refine G.iadd dX10_placeOf_9 ?_
  refine G.iald dX10_placeOf_10 h (fun v2 h => ?_)
  exact G.iret dX10_placeOf_11 rfl (rfl) h
-- OnlyUpward$World.standers(II)I
set_option maxRecDepth 100000 in
set_option maxHeartbeats 4000000 in
def F_X10_standers (n : Nat) (M : AM) (a0 : Nat) (a1 : Int32) (a2 : Int32) : Option Int32 :=
  if 0 ≤ a1 then (gR 10 14 M a0).bind fun v2 => (rdI M v2 ((a1 * (24 : Int32)) + a2)).bind fun v3 => some v3 else some (0 : Int32)
set_option maxRecDepth 100000 in
set_option maxHeartbeats 4000000 in
theorem C_X10_standers {n : Nat} {M : AM} {a0 : Nat} {a1 : Int32} {a2 : Int32} {o : Int32} (h : F_X10_standers n M a0 a1 a2 = some o) : Cn yX10_standers cX10_standers 3 (some .int) 0 [.ref a0, .int a1, .int a2] M (some (.int o)) M := by
  unfold F_X10_standers at h
  refine Cn.of rfl (Nat.le_of_ble_eq_true rfl) ?_
  show G yX10_standers cX10_standers 3 (some .int) 0 0 [(0, .ref a0), (1, .int a1), (2, .int a2)] [] M (some (.int o)) M
  refine G.iload_n dX10_standers_0 rfl rfl ?_
  refine G.if_ge 8 dX10_standers_1 (by decide) h (fun c1 h => ?_) (fun c1 h => ?_)
  · refine G.aload_n dX10_standers_8 rfl rfl ?_
    refine G.getR dX10_standers_9 fkX10_58 fr10_14 h (fun v2 h => ?_)
    refine G.iload_n dX10_standers_12 rfl rfl ?_
    refine G.bipush (24 : Int32) dX10_standers_13 kb_24 ?_
    refine G.imul dX10_standers_15 ?_
    refine G.iload_n dX10_standers_16 rfl rfl ?_
    refine G.iadd dX10_standers_17 ?_
    refine G.iald dX10_standers_18 h (fun v3 h => ?_)
    exact G.iret dX10_standers_19 rfl (rfl) h
  · refine G.iconst (0 : Int32) dX10_standers_4 ki_0 ?_
    refine G.goto 19 dX10_standers_5 (by decide) ?_
    exact G.iret dX10_standers_19 rfl (rfl) h
-- OnlyUpward$World.ageAt(II)I
set_option maxRecDepth 100000 in
set_option maxHeartbeats 4000000 in
def F_X10_ageAt (n : Nat) (M : AM) (a0 : Nat) (a1 : Int32) (a2 : Int32) : Option Int32 :=
  (gR 10 2 M a0).bind fun v1 => (rdI M v1 a1).bind fun v2 => if a2 < v2 then (gR 10 1 M a0).bind fun v4 => (rdI M v4 a1).bind fun v5 => some v5 else (gR 10 1 M a0).bind fun v6 => (rdI M v6 a1).bind fun v7 => some (v7 + (1 : Int32))
set_option maxRecDepth 100000 in
set_option maxHeartbeats 4000000 in
theorem C_X10_ageAt {n : Nat} {M : AM} {a0 : Nat} {a1 : Int32} {a2 : Int32} {o : Int32} (h : F_X10_ageAt n M a0 a1 a2 = some o) : Cn yX10_ageAt cX10_ageAt 3 (some .int) 0 [.ref a0, .int a1, .int a2] M (some (.int o)) M := by
  unfold F_X10_ageAt at h
  refine Cn.of rfl (Nat.le_of_ble_eq_true rfl) ?_
  show G yX10_ageAt cX10_ageAt 3 (some .int) 0 0 [(0, .ref a0), (1, .int a1), (2, .int a2)] [] M (some (.int o)) M
  refine G.iload_n dX10_ageAt_0 rfl rfl ?_
  refine G.aload_n dX10_ageAt_1 rfl rfl ?_
  refine G.getR dX10_ageAt_2 fkX10_18 fr10_2 h (fun v1 h => ?_)
  refine G.iload_n dX10_ageAt_5 rfl rfl ?_
  refine G.iald dX10_ageAt_6 h (fun v2 h => ?_)
  refine G.icmp_lt 21 dX10_ageAt_7 (by decide) h (fun c3 h => ?_) (fun c3 h => ?_)
  · refine G.aload_n dX10_ageAt_21 rfl rfl ?_
    refine G.getR dX10_ageAt_22 fkX10_15 fr10_1 h (fun v4 h => ?_)
    refine G.iload_n dX10_ageAt_25 rfl rfl ?_
    refine G.iald dX10_ageAt_26 h (fun v5 h => ?_)
    exact G.iret dX10_ageAt_27 rfl (rfl) h
  · refine G.aload_n dX10_ageAt_10 rfl rfl ?_
    refine G.getR dX10_ageAt_11 fkX10_15 fr10_1 h (fun v6 h => ?_)
    refine G.iload_n dX10_ageAt_14 rfl rfl ?_
    refine G.iald dX10_ageAt_15 h (fun v7 h => ?_)
    refine G.iconst (1 : Int32) dX10_ageAt_16 ki_1 ?_
    refine G.iadd dX10_ageAt_17 ?_
    refine G.goto 27 dX10_ageAt_18 (by decide) ?_
    exact G.iret dX10_ageAt_27 rfl (rfl) h
-- OnlyUpward$Laws.combine(III)I
set_option maxRecDepth 100000 in
set_option maxHeartbeats 4000000 in
def F_X4_combine (n : Nat) (M : AM) (a0 : Int32) (a1 : Int32) (a2 : Int32) : Option Int32 :=
  if a0 = (13 : Int32) then some (a1 ||| a2) else if a0 = (14 : Int32) then some (a1 &&& a2) else if a0 = (15 : Int32) then some (0 : Int32) else if a0 = (16 : Int32) then some (0 : Int32) else if a0 = (17 : Int32) then some (0 : Int32) else if a0 = (18 : Int32) then some (0 : Int32) else if a0 = (19 : Int32) then some (0 : Int32) else if a0 = (20 : Int32) then some (0 : Int32) else if a0 = (21 : Int32) then some (0 : Int32) else if a0 = (22 : Int32) then some (0 : Int32) else if a0 = (23 : Int32) then some (0 : Int32) else if a0 = (24 : Int32) then some (a1 + a2) else if a0 = (25 : Int32) then some (a1 - a2) else if a0 = (26 : Int32) then some (a1 * a2) else if a0 = (27 : Int32) then if a2 = 0 then some (0 : Int32) else gd (¬ a2 = 0) (some (a1 / a2)) else if a0 = (28 : Int32) then if a1 = a2 then some (1 : Int32) else some (0 : Int32) else if a0 = (29 : Int32) then if a1 = a2 then some (0 : Int32) else some (1 : Int32) else if a0 = (30 : Int32) then if a2 ≤ a1 then some (0 : Int32) else some (1 : Int32) else if a0 = (31 : Int32) then if a2 < a1 then some (0 : Int32) else some (1 : Int32) else some (0 : Int32)
set_option maxRecDepth 100000 in
set_option maxHeartbeats 4000000 in
theorem C_X4_combine {n : Nat} {M : AM} {a0 : Int32} {a1 : Int32} {a2 : Int32} {o : Int32} (h : F_X4_combine n M a0 a1 a2 = some o) : Cn yX4_combine cX4_combine 3 (some .int) 0 [.int a0, .int a1, .int a2] M (some (.int o)) M := by
  unfold F_X4_combine at h
  refine Cn.of rfl (Nat.le_of_ble_eq_true rfl) ?_
  show G yX4_combine cX4_combine 3 (some .int) 0 0 [(0, .int a0), (1, .int a1), (2, .int a2)] [] M (some (.int o)) M
  refine G.iload_n dX4_combine_0 rfl rfl ?_
  refine G.sw h (fun c1 h => ?_) (fun c1 h => ?_)
  · refine G.tableIn 164 dX4_combine_1 (by rw [c1]; decide) (by rw [c1]; decide) (by rw [c1]; rfl) (by decide) ?_
    refine G.iload_n dX4_combine_164 rfl rfl ?_
    refine G.iload_n dX4_combine_165 rfl rfl ?_
    refine G.ior dX4_combine_166 ?_
    exact G.iret dX4_combine_167 rfl (rfl) h
  · refine G.sw h (fun c2 h => ?_) (fun c2 h => ?_)
    · refine G.tableIn 160 dX4_combine_1 (by rw [c2]; decide) (by rw [c2]; decide) (by rw [c2]; rfl) (by decide) ?_
      refine G.iload_n dX4_combine_160 rfl rfl ?_
      refine G.iload_n dX4_combine_161 rfl rfl ?_
      refine G.iand dX4_combine_162 ?_
      exact G.iret dX4_combine_163 rfl (rfl) h
    · refine G.sw h (fun c3 h => ?_) (fun c3 h => ?_)
      · refine G.tableIn 168 dX4_combine_1 (by rw [c3]; decide) (by rw [c3]; decide) (by rw [c3]; rfl) (by decide) ?_
        refine G.iconst (0 : Int32) dX4_combine_168 ki_0 ?_
        exact G.iret dX4_combine_169 rfl (rfl) h
      · refine G.sw h (fun c4 h => ?_) (fun c4 h => ?_)
        · refine G.tableIn 168 dX4_combine_1 (by rw [c4]; decide) (by rw [c4]; decide) (by rw [c4]; rfl) (by decide) ?_
          refine G.iconst (0 : Int32) dX4_combine_168 ki_0 ?_
          exact G.iret dX4_combine_169 rfl (rfl) h
        · refine G.sw h (fun c5 h => ?_) (fun c5 h => ?_)
          · refine G.tableIn 168 dX4_combine_1 (by rw [c5]; decide) (by rw [c5]; decide) (by rw [c5]; rfl) (by decide) ?_
            refine G.iconst (0 : Int32) dX4_combine_168 ki_0 ?_
            exact G.iret dX4_combine_169 rfl (rfl) h
          · refine G.sw h (fun c6 h => ?_) (fun c6 h => ?_)
            · refine G.tableIn 168 dX4_combine_1 (by rw [c6]; decide) (by rw [c6]; decide) (by rw [c6]; rfl) (by decide) ?_
              refine G.iconst (0 : Int32) dX4_combine_168 ki_0 ?_
              exact G.iret dX4_combine_169 rfl (rfl) h
            · refine G.sw h (fun c7 h => ?_) (fun c7 h => ?_)
              · refine G.tableIn 168 dX4_combine_1 (by rw [c7]; decide) (by rw [c7]; decide) (by rw [c7]; rfl) (by decide) ?_
                refine G.iconst (0 : Int32) dX4_combine_168 ki_0 ?_
                exact G.iret dX4_combine_169 rfl (rfl) h
              · refine G.sw h (fun c8 h => ?_) (fun c8 h => ?_)
                · refine G.tableIn 168 dX4_combine_1 (by rw [c8]; decide) (by rw [c8]; decide) (by rw [c8]; rfl) (by decide) ?_
                  refine G.iconst (0 : Int32) dX4_combine_168 ki_0 ?_
                  exact G.iret dX4_combine_169 rfl (rfl) h
                · refine G.sw h (fun c9 h => ?_) (fun c9 h => ?_)
                  · refine G.tableIn 168 dX4_combine_1 (by rw [c9]; decide) (by rw [c9]; decide) (by rw [c9]; rfl) (by decide) ?_
                    refine G.iconst (0 : Int32) dX4_combine_168 ki_0 ?_
                    exact G.iret dX4_combine_169 rfl (rfl) h
                  · refine G.sw h (fun c10 h => ?_) (fun c10 h => ?_)
                    · refine G.tableIn 168 dX4_combine_1 (by rw [c10]; decide) (by rw [c10]; decide) (by rw [c10]; rfl) (by decide) ?_
                      refine G.iconst (0 : Int32) dX4_combine_168 ki_0 ?_
                      exact G.iret dX4_combine_169 rfl (rfl) h
                    · refine G.sw h (fun c11 h => ?_) (fun c11 h => ?_)
                      · refine G.tableIn 168 dX4_combine_1 (by rw [c11]; decide) (by rw [c11]; decide) (by rw [c11]; rfl) (by decide) ?_
                        refine G.iconst (0 : Int32) dX4_combine_168 ki_0 ?_
                        exact G.iret dX4_combine_169 rfl (rfl) h
                      · refine G.sw h (fun c12 h => ?_) (fun c12 h => ?_)
                        · refine G.tableIn 92 dX4_combine_1 (by rw [c12]; decide) (by rw [c12]; decide) (by rw [c12]; rfl) (by decide) ?_
                          refine G.iload_n dX4_combine_92 rfl rfl ?_
                          refine G.iload_n dX4_combine_93 rfl rfl ?_
                          refine G.iadd dX4_combine_94 ?_
                          exact G.iret dX4_combine_95 rfl (rfl) h
                        · refine G.sw h (fun c13 h => ?_) (fun c13 h => ?_)
                          · refine G.tableIn 96 dX4_combine_1 (by rw [c13]; decide) (by rw [c13]; decide) (by rw [c13]; rfl) (by decide) ?_
                            refine G.iload_n dX4_combine_96 rfl rfl ?_
                            refine G.iload_n dX4_combine_97 rfl rfl ?_
                            refine G.isub dX4_combine_98 ?_
                            exact G.iret dX4_combine_99 rfl (rfl) h
                          · refine G.sw h (fun c14 h => ?_) (fun c14 h => ?_)
                            · refine G.tableIn 100 dX4_combine_1 (by rw [c14]; decide) (by rw [c14]; decide) (by rw [c14]; rfl) (by decide) ?_
                              refine G.iload_n dX4_combine_100 rfl rfl ?_
                              refine G.iload_n dX4_combine_101 rfl rfl ?_
                              refine G.imul dX4_combine_102 ?_
                              exact G.iret dX4_combine_103 rfl (rfl) h
                            · refine G.sw h (fun c15 h => ?_) (fun c15 h => ?_)
                              · refine G.tableIn 104 dX4_combine_1 (by rw [c15]; decide) (by rw [c15]; decide) (by rw [c15]; rfl) (by decide) ?_
                                refine G.iload_n dX4_combine_104 rfl rfl ?_
                                refine G.if_ne 112 dX4_combine_105 (by decide) h (fun c16 h => ?_) (fun c16 h => ?_)
                                · refine G.iconst (0 : Int32) dX4_combine_108 ki_0 ?_
                                  refine G.goto 115 dX4_combine_109 (by decide) ?_
                                  exact G.iret dX4_combine_115 rfl (rfl) h
                                · refine G.iload_n dX4_combine_112 rfl rfl ?_
                                  refine G.iload_n dX4_combine_113 rfl rfl ?_
                                  refine gd_elim h (fun c17 h => ?_)
                                  refine G.idiv dX4_combine_114 c17 ?_
                                  exact G.iret dX4_combine_115 rfl (rfl) h
                              · refine G.sw h (fun c18 h => ?_) (fun c18 h => ?_)
                                · refine G.tableIn 116 dX4_combine_1 (by rw [c18]; decide) (by rw [c18]; decide) (by rw [c18]; rfl) (by decide) ?_
                                  refine G.iload_n dX4_combine_116 rfl rfl ?_
                                  refine G.iload_n dX4_combine_117 rfl rfl ?_
                                  refine G.icmp_ne 125 dX4_combine_118 (by decide) h (fun c19 h => ?_) (fun c19 h => ?_)
                                  · refine G.iconst (1 : Int32) dX4_combine_121 ki_1 ?_
                                    refine G.goto 126 dX4_combine_122 (by decide) ?_
                                    exact G.iret dX4_combine_126 rfl (rfl) h
                                  · refine G.iconst (0 : Int32) dX4_combine_125 ki_0 ?_
                                    exact G.iret dX4_combine_126 rfl (rfl) h
                                · refine G.sw h (fun c20 h => ?_) (fun c20 h => ?_)
                                  · refine G.tableIn 127 dX4_combine_1 (by rw [c20]; decide) (by rw [c20]; decide) (by rw [c20]; rfl) (by decide) ?_
                                    refine G.iload_n dX4_combine_127 rfl rfl ?_
                                    refine G.iload_n dX4_combine_128 rfl rfl ?_
                                    refine G.icmp_eq 136 dX4_combine_129 (by decide) h (fun c21 h => ?_) (fun c21 h => ?_)
                                    · refine G.iconst (0 : Int32) dX4_combine_136 ki_0 ?_
                                      exact G.iret dX4_combine_137 rfl (rfl) h
                                    · refine G.iconst (1 : Int32) dX4_combine_132 ki_1 ?_
                                      refine G.goto 137 dX4_combine_133 (by decide) ?_
                                      exact G.iret dX4_combine_137 rfl (rfl) h
                                  · refine G.sw h (fun c22 h => ?_) (fun c22 h => ?_)
                                    · refine G.tableIn 138 dX4_combine_1 (by rw [c22]; decide) (by rw [c22]; decide) (by rw [c22]; rfl) (by decide) ?_
                                      refine G.iload_n dX4_combine_138 rfl rfl ?_
                                      refine G.iload_n dX4_combine_139 rfl rfl ?_
                                      refine G.icmp_ge 147 dX4_combine_140 (by decide) h (fun c23 h => ?_) (fun c23 h => ?_)
                                      · refine G.iconst (0 : Int32) dX4_combine_147 ki_0 ?_
                                        exact G.iret dX4_combine_148 rfl (rfl) h
                                      · refine G.iconst (1 : Int32) dX4_combine_143 ki_1 ?_
                                        refine G.goto 148 dX4_combine_144 (by decide) ?_
                                        exact G.iret dX4_combine_148 rfl (rfl) h
                                    · refine G.sw h (fun c24 h => ?_) (fun c24 h => ?_)
                                      · refine G.tableIn 149 dX4_combine_1 (by rw [c24]; decide) (by rw [c24]; decide) (by rw [c24]; rfl) (by decide) ?_
                                        refine G.iload_n dX4_combine_149 rfl rfl ?_
                                        refine G.iload_n dX4_combine_150 rfl rfl ?_
                                        refine G.icmp_gt 158 dX4_combine_151 (by decide) h (fun c25 h => ?_) (fun c25 h => ?_)
                                        · refine G.iconst (0 : Int32) dX4_combine_158 ki_0 ?_
                                          exact G.iret dX4_combine_159 rfl (rfl) h
                                        · refine G.iconst (1 : Int32) dX4_combine_154 ki_1 ?_
                                          refine G.goto 159 dX4_combine_155 (by decide) ?_
                                          exact G.iret dX4_combine_159 rfl (rfl) h
                                      · refine G.tableOut 168 dX4_combine_1 (sw_out (lo := 13) (hi := 31) (fun z26 g1 g2 ge => ?_)) (by decide) ?_
                                        · have hz : z26 = 13 ∨ z26 = 14 ∨ z26 = 15 ∨ z26 = 16 ∨ z26 = 17 ∨ z26 = 18 ∨ z26 = 19 ∨ z26 = 20 ∨ z26 = 21 ∨ z26 = 22 ∨ z26 = 23 ∨ z26 = 24 ∨ z26 = 25 ∨ z26 = 26 ∨ z26 = 27 ∨ z26 = 28 ∨ z26 = 29 ∨ z26 = 30 ∨ z26 = 31 := by omega
                                          rcases hz with rfl | rfl | rfl | rfl | rfl | rfl | rfl | rfl | rfl | rfl | rfl | rfl | rfl | rfl | rfl | rfl | rfl | rfl | rfl
                                          · exact c1 ge
                                          · exact c2 ge
                                          · exact c3 ge
                                          · exact c4 ge
                                          · exact c5 ge
                                          · exact c6 ge
                                          · exact c7 ge
                                          · exact c8 ge
                                          · exact c9 ge
                                          · exact c10 ge
                                          · exact c11 ge
                                          · exact c12 ge
                                          · exact c13 ge
                                          · exact c14 ge
                                          · exact c15 ge
                                          · exact c18 ge
                                          · exact c20 ge
                                          · exact c22 ge
                                          · exact c24 ge
                                        · refine G.iconst (0 : Int32) dX4_combine_168 ki_0 ?_
                                          exact G.iret dX4_combine_169 rfl (rfl) h
