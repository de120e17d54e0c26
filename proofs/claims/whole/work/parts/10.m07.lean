-- OnlyUpwardModel.stand(III)I
set_option maxRecDepth 100000 in
set_option maxHeartbeats 4000000 in
def F_X12_stand (n : Nat) (M : AM) (a0 : Nat) (a1 : Int32) (a2 : Int32) (a3 : Int32) : Option (Int32 × AM) :=
  (rcv 12 M a0 (F_X12_isPlace n M a0 a1)).bind fun v1 => if v1 = 0 then some ((-1 : Int32), M) else (F_X12_isHour n M a2).bind fun v3 => if v3 = 0 then some ((-1 : Int32), M) else (rcv 12 M a0 (F_X12_isSet n M a0 a3)).bind fun v5 => if v5 = 0 then some ((-1 : Int32), M) else (pI 12 61 M a0 (0 : Int32)).bind fun M7 => (rcv 12 M7 a0 (F_X12_earshotOf n M7 a0 a1 a2)).bind fun v8 => some ((a3 &&& (v8 ^^^ (-1 : Int32))), M7)
set_option maxRecDepth 100000 in
set_option maxHeartbeats 4000000 in
theorem C_X12_stand {n : Nat} {M : AM} {a0 : Nat} {a1 : Int32} {a2 : Int32} {a3 : Int32} {o : (Int32 × AM)} (h : F_X12_stand n M a0 a1 a2 a3 = some o) : Cn yX12_stand cX12_stand 4 (some .int) 3 [.ref a0, .int a1, .int a2, .int a3] M (some (.int o.1)) o.2 := by
  unfold F_X12_stand at h
  refine Cn.of rfl (Nat.le_of_ble_eq_true rfl) ?_
  show G yX12_stand cX12_stand 4 (some .int) 3 0 [(0, .ref a0), (1, .int a1), (2, .int a2), (3, .int a3)] [] M (some (.int o.1)) o.2
  refine G.aload_n dX12_stand_0 rfl rfl ?_
  refine G.iload_n dX12_stand_1 rfl rfl ?_
  refine G.callVi (ci := 12) [.int a1] [] dX12_stand_2 lkX12_421 okX12_isPlace rfl (fun v hv => C_X12_isPlace hv) (Nat.le_of_ble_eq_true rfl) rfl rfl (Nat.le_of_ble_eq_true rfl) h (fun v1 h => ?_)
  refine G.if_eq 23 dX12_stand_5 (by decide) h (fun c2 h => ?_) (fun c2 h => ?_)
  · refine G.iconst (-1 : Int32) dX12_stand_23 ki_m1 ?_
    exact G.iretW dX12_stand_24 rfl (rfl) h
  · refine G.iload_n dX12_stand_8 rfl rfl ?_
    refine G.callSi [.int a2] [] dX12_stand_9 lkX12_418 okX12_isHour (fun v hv => C_X12_isHour hv) (Nat.le_of_ble_eq_true rfl) rfl rfl (Nat.le_of_ble_eq_true rfl) h (fun v3 h => ?_)
    refine G.if_eq 23 dX12_stand_12 (by decide) h (fun c4 h => ?_) (fun c4 h => ?_)
    · refine G.iconst (-1 : Int32) dX12_stand_23 ki_m1 ?_
      exact G.iretW dX12_stand_24 rfl (rfl) h
    · refine G.aload_n dX12_stand_15 rfl rfl ?_
      refine G.iload_n dX12_stand_16 rfl rfl ?_
      refine G.callVi (ci := 12) [.int a3] [] dX12_stand_17 lkX12_523 okX12_isSet rfl (fun v hv => C_X12_isSet hv) (Nat.le_of_ble_eq_true rfl) rfl rfl (Nat.le_of_ble_eq_true rfl) h (fun v5 h => ?_)
      refine G.if_ne 25 dX12_stand_20 (by decide) h (fun c6 h => ?_) (fun c6 h => ?_)
      · refine G.iconst (-1 : Int32) dX12_stand_23 ki_m1 ?_
        exact G.iretW dX12_stand_24 rfl (rfl) h
      · refine G.aload_n dX12_stand_25 rfl rfl ?_
        refine G.iconst (0 : Int32) dX12_stand_26 ki_0 ?_
        refine G.putI dX12_stand_27 fkX12_390 nf12_61 ft12_61 h (fun M7 h => ?_)
        refine G.iload_n dX12_stand_30 rfl rfl ?_
        refine G.aload_n dX12_stand_31 rfl rfl ?_
        refine G.iload_n dX12_stand_32 rfl rfl ?_
        refine G.iload_n dX12_stand_33 rfl rfl ?_
        refine G.callVi (ci := 12) [.int a1, .int a2] [.int a3] dX12_stand_34 lkX12_424 okX12_earshotOf rfl (fun v hv => C_X12_earshotOf hv) (Nat.le_of_ble_eq_true rfl) rfl rfl (Nat.le_of_ble_eq_true rfl) h (fun v8 h => ?_)
        refine G.iconst (-1 : Int32) dX12_stand_37 ki_m1 ?_
        refine G.ixor dX12_stand_38 ?_
        refine G.iand dX12_stand_39 ?_
        exact G.iretW dX12_stand_40 rfl (rfl) h
-- OnlyUpwardModel.best(III)I
set_option maxRecDepth 100000 in
set_option maxHeartbeats 4000000 in
def F_X12_best (n : Nat) (M : AM) (a0 : Nat) (a1 : Int32) (a2 : Int32) (a3 : Int32) : Option (Int32 × AM) :=
  (rcv 12 M a0 (F_X12_isPerson n M a0 a1)).bind fun v1 => if v1 = 0 then some ((-1 : Int32), M) else (F_X12_isHour n M a2).bind fun v3 => if v3 = 0 then some ((-1 : Int32), M) else (rcv 12 M a0 (F_X12_isSet n M a0 a3)).bind fun v5 => if v5 = 0 then some ((-1 : Int32), M) else (pI 12 61 M a0 (0 : Int32)).bind fun M7 => (iter (fun (s8 : Int32 × AM) => if (24 : Int32) ≤ s8.1 then some (.inr (.inl s8.2)) else (rcv 12 s8.2 a0 (F_X12_placeOf n s8.2 a0 a1 s8.1)).bind fun v10 => jn (fun (M11 : AM) => some (.inl ((s8.1 + (1 : Int32)), M11))) fun j12 => if v10 < 0 then j12 s8.2 else (rcv 12 s8.2 a0 (F_X12_speaks n s8.2 a0 a1 s8.1 (0 : Int32))).bind fun v14 => if v14.1 = 0 then j12 v14.2 else (rcv 12 v14.2 a0 (F_X12_earshotOf n v14.2 a0 v10 s8.1)).bind fun v16 => if (a3 &&& (v16 ^^^ (-1 : Int32))) = 0 then some (.inr (.inr (s8.1, v14.2))) else j12 v14.2) n (a2, M7)).bind fun (z8 : (AM) ⊕ (Int32 × AM)) => Sum.elim (fun (e8 : AM) => some ((-2 : Int32), e8)) (fun (v : (Int32 × AM)) => some v) z8
set_option maxRecDepth 100000 in
set_option maxHeartbeats 4000000 in
theorem C_X12_best {n : Nat} {M : AM} {a0 : Nat} {a1 : Int32} {a2 : Int32} {a3 : Int32} {o : (Int32 × AM)} (h : F_X12_best n M a0 a1 a2 a3 = some o) : Cn yX12_best cX12_best 6 (some .int) 5 [.ref a0, .int a1, .int a2, .int a3] M (some (.int o.1)) o.2 := by
  unfold F_X12_best at h
  refine Cn.of rfl (Nat.le_of_ble_eq_true rfl) ?_
  show G yX12_best cX12_best 6 (some .int) 5 0 [(0, .ref a0), (1, .int a1), (2, .int a2), (3, .int a3)] [] M (some (.int o.1)) o.2
  refine G.aload_n dX12_best_0 rfl rfl ?_
  refine G.iload_n dX12_best_1 rfl rfl ?_
  refine G.callVi (ci := 12) [.int a1] [] dX12_best_2 lkX12_415 okX12_isPerson rfl (fun v hv => C_X12_isPerson hv) (Nat.le_of_ble_eq_true rfl) rfl rfl (Nat.le_of_ble_eq_true rfl) h (fun v1 h => ?_)
  refine G.if_eq 23 dX12_best_5 (by decide) h (fun c2 h => ?_) (fun c2 h => ?_)
  · refine G.iconst (-1 : Int32) dX12_best_23 ki_m1 ?_
    exact G.iretW dX12_best_24 rfl (rfl) h
  · refine G.iload_n dX12_best_8 rfl rfl ?_
    refine G.callSi [.int a2] [] dX12_best_9 lkX12_418 okX12_isHour (fun v hv => C_X12_isHour hv) (Nat.le_of_ble_eq_true rfl) rfl rfl (Nat.le_of_ble_eq_true rfl) h (fun v3 h => ?_)
    refine G.if_eq 23 dX12_best_12 (by decide) h (fun c4 h => ?_) (fun c4 h => ?_)
    · refine G.iconst (-1 : Int32) dX12_best_23 ki_m1 ?_
      exact G.iretW dX12_best_24 rfl (rfl) h
    · refine G.aload_n dX12_best_15 rfl rfl ?_
      refine G.iload_n dX12_best_16 rfl rfl ?_
      refine G.callVi (ci := 12) [.int a3] [] dX12_best_17 lkX12_523 okX12_isSet rfl (fun v hv => C_X12_isSet hv) (Nat.le_of_ble_eq_true rfl) rfl rfl (Nat.le_of_ble_eq_true rfl) h (fun v5 h => ?_)
      refine G.if_ne 25 dX12_best_20 (by decide) h (fun c6 h => ?_) (fun c6 h => ?_)
      · refine G.iconst (-1 : Int32) dX12_best_23 ki_m1 ?_
        exact G.iretW dX12_best_24 rfl (rfl) h
      · refine G.aload_n dX12_best_25 rfl rfl ?_
        refine G.iconst (0 : Int32) dX12_best_26 ki_0 ?_
        refine G.putI dX12_best_27 fkX12_390 nf12_61 ft12_61 h (fun M7 h => ?_)
        refine G.iload_n dX12_best_30 rfl rfl ?_
        refine G.istore (lv' := [(4, .int a2), (0, .ref a0), (1, .int a1), (2, .int a2), (3, .int a3)]) dX12_best_31 (Nat.le_of_ble_eq_true rfl) rfl ?_
        refine G.sub (lv' := [(0, .ref a0), (1, .int a1), (3, .int a3), (4, .int a2)]) [1, 2, 4, 0] rfl ?_
        refine loopE (fun (s8 : Int32 × AM) => G yX12_best cX12_best 6 (some .int) 5 33 [(0, .ref a0), (1, .int a1), (3, .int a3), (4, .int s8.1)] [] s8.2 (some (.int o.1)) o.2) (fun (z8 : (AM) ⊕ (Int32 × AM)) => Sum.elim (fun (e8 : AM) => G yX12_best cX12_best 6 (some .int) 5 89 [] [] e8 (some (.int o.1)) o.2) (fun (v : (Int32 × AM)) => some v = some o) z8) h ?_ ?_
        · intro z8 h
          rcases z8 with e8 | v
          · have h := sum_inl h
            show G yX12_best cX12_best 6 (some .int) 5 89 [] [] e8 (some (.int o.1)) o.2
            refine G.bipush (-2 : Int32) dX12_best_89 kb_m2 ?_
            exact G.iretW dX12_best_91 rfl (rfl) h
          · have h := sum_inr h
            exact h
        · intro s8 x8 h K8
          show G yX12_best cX12_best 6 (some .int) 5 33 [(0, .ref a0), (1, .int a1), (3, .int a3), (4, .int s8.1)] [] s8.2 (some (.int o.1)) o.2
          refine G.iload dX12_best_33 rfl ?_
          refine G.bipush (24 : Int32) dX12_best_35 kb_24 ?_
          refine G.icmp_ge 89 dX12_best_37 (by decide) h (fun c9 h => ?_) (fun c9 h => ?_)
          · refine G.sub (lv' := []) [] rfl ?_
            have h := leafR' h K8
            exact h
          · refine G.aload_n dX12_best_40 rfl rfl ?_
            refine G.iload_n dX12_best_41 rfl rfl ?_
            refine G.iload dX12_best_42 rfl ?_
            refine G.callVi (ci := 12) [.int a1, .int s8.1] [] dX12_best_44 lkX12_396 okX12_placeOf rfl (fun v hv => C_X12_placeOf hv) (Nat.le_of_ble_eq_true rfl) rfl rfl (Nat.le_of_ble_eq_true rfl) h (fun v10 h => ?_)
            refine G.istore (lv' := [(5, .int v10), (0, .ref a0), (1, .int a1), (3, .int a3), (4, .int s8.1)]) dX12_best_47 (Nat.le_of_ble_eq_true rfl) rfl ?_
            refine G.iload dX12_best_49 rfl ?_
            refine jn_elim (fun j12 => ∀ (M11 : AM), j12 M11 = some x8 → G yX12_best cX12_best 6 (some .int) 5 83 [(0, .ref a0), (1, .int a1), (3, .int a3), (4, .int s8.1)] [] M11 (some (.int o.1)) o.2) h ?_ ?_
            · intro M11 h
              refine G.iinc s8.1 (w := (s8.1 + (1 : Int32))) (lv' := [(4, .int (s8.1 + (1 : Int32))), (0, .ref a0), (1, .int a1), (3, .int a3)]) dX12_best_83 rfl rfl (Nat.le_of_ble_eq_true rfl) rfl ?_
              refine G.goto 33 dX12_best_86 (by decide) ?_
              refine G.sub (lv' := [(0, .ref a0), (1, .int a1), (3, .int a3), (4, .int (s8.1 + (1 : Int32)))]) [1, 2, 3, 0] rfl ?_
              have h := leafL' h K8
              exact h
            · intro j12 Jj12 h
              refine G.if_lt 83 dX12_best_51 (by decide) h (fun c13 h => ?_) (fun c13 h => ?_)
              · refine G.sub (lv' := [(0, .ref a0), (1, .int a1), (3, .int a3), (4, .int s8.1)]) [1, 2, 3, 4] rfl ?_
                exact Jj12 _ h
              · refine G.aload_n dX12_best_54 rfl rfl ?_
                refine G.iload_n dX12_best_55 rfl rfl ?_
                refine G.iload dX12_best_56 rfl ?_
                refine G.iconst (0 : Int32) dX12_best_58 ki_0 ?_
                refine G.callVi (ci := 12) [.int a1, .int s8.1, .int (0 : Int32)] [] dX12_best_59 lkX12_484 okX12_speaks rfl (fun v hv => C_X12_speaks hv) (Nat.le_of_ble_eq_true rfl) rfl rfl (Nat.le_of_ble_eq_true rfl) h (fun v14 h => ?_)
                refine G.if_eq 83 dX12_best_62 (by decide) h (fun c15 h => ?_) (fun c15 h => ?_)
                · refine G.sub (lv' := [(0, .ref a0), (1, .int a1), (3, .int a3), (4, .int s8.1)]) [1, 2, 3, 4] rfl ?_
                  exact Jj12 _ h
                · refine G.iload_n dX12_best_65 rfl rfl ?_
                  refine G.aload_n dX12_best_66 rfl rfl ?_
                  refine G.iload dX12_best_67 rfl ?_
                  refine G.iload dX12_best_69 rfl ?_
                  refine G.callVi (ci := 12) [.int v10, .int s8.1] [.int a3] dX12_best_71 lkX12_424 okX12_earshotOf rfl (fun v hv => C_X12_earshotOf hv) (Nat.le_of_ble_eq_true rfl) rfl rfl (Nat.le_of_ble_eq_true rfl) h (fun v16 h => ?_)
                  refine G.iconst (-1 : Int32) dX12_best_74 ki_m1 ?_
                  refine G.ixor dX12_best_75 ?_
                  refine G.iand dX12_best_76 ?_
                  refine G.if_ne 83 dX12_best_77 (by decide) h (fun c17 h => ?_) (fun c17 h => ?_)
                  · refine G.iload dX12_best_80 rfl ?_
                    have h := leafR' h K8
                    exact G.iretW dX12_best_82 rfl (rfl) h
                  · refine G.sub (lv' := [(0, .ref a0), (1, .int a1), (3, .int a3), (4, .int s8.1)]) [1, 2, 3, 4] rfl ?_
                    exact Jj12 _ h
-- OnlyUpwardModel.lostWith(II)I
set_option maxRecDepth 100000 in
set_option maxHeartbeats 4000000 in
def F_X12_lostWith (n : Nat) (M : AM) (a0 : Nat) (a1 : Int32) (a2 : Int32) : Option Int32 :=
  (gR 12 68 M a0).bind fun v1 => (rdI M v1 (((10 : Int32) * a2) + a1)).bind fun v2 => (iter (fun (s3 : Int32 × Int32) => (rcv 12 M a0 (F_X12_has n M a0 (1 : Int32))).bind fun v4 => if v4 ≤ s3.2 then some (.inr s3.1) else jn (fun (u6 : Int32) => some (.inl (u6, (s3.2 + (1 : Int32))))) fun j7 => if s3.2 = a1 then j7 s3.1 else (gR 12 68 M a0).bind fun v9 => (rdI M v9 (((10 : Int32) * a2) + s3.2)).bind fun v10 => j7 (s3.1 &&& (v10 ^^^ (-1 : Int32)))) n (v2, (0 : Int32))).bind fun (e3 : Int32) => some e3
set_option maxRecDepth 100000 in
set_option maxHeartbeats 4000000 in
theorem C_X12_lostWith {n : Nat} {M : AM} {a0 : Nat} {a1 : Int32} {a2 : Int32} {o : Int32} (h : F_X12_lostWith n M a0 a1 a2 = some o) : Cn yX12_lostWith cX12_lostWith 5 (some .int) 1 [.ref a0, .int a1, .int a2] M (some (.int o)) M := by
  unfold F_X12_lostWith at h
  refine Cn.of rfl (Nat.le_of_ble_eq_true rfl) ?_
  show G yX12_lostWith cX12_lostWith 5 (some .int) 1 0 [(0, .ref a0), (1, .int a1), (2, .int a2)] [] M (some (.int o)) M
  refine G.aload_n dX12_lostWith_0 rfl rfl ?_
  refine G.getR dX12_lostWith_1 fkX12_164 fr12_68 h (fun v1 h => ?_)
  refine G.bipush (10 : Int32) dX12_lostWith_4 kb_10 ?_
  refine G.iload_n dX12_lostWith_6 rfl rfl ?_
  refine G.imul dX12_lostWith_7 ?_
  refine G.iload_n dX12_lostWith_8 rfl rfl ?_
  refine G.iadd dX12_lostWith_9 ?_
  refine G.iald dX12_lostWith_10 h (fun v2 h => ?_)
  refine G.istore_n (lv' := [(3, .int v2), (0, .ref a0), (1, .int a1), (2, .int a2)]) dX12_lostWith_11 rfl (Nat.le_of_ble_eq_true rfl) rfl ?_
  refine G.iconst (0 : Int32) dX12_lostWith_12 ki_0 ?_
  refine G.istore (lv' := [(4, .int (0 : Int32)), (3, .int v2), (0, .ref a0), (1, .int a1), (2, .int a2)]) dX12_lostWith_13 (Nat.le_of_ble_eq_true rfl) rfl ?_
  refine G.sub (lv' := [(0, .ref a0), (1, .int a1), (2, .int a2), (3, .int v2), (4, .int (0 : Int32))]) [2, 3, 4, 1, 0] rfl ?_
  refine loopE (fun (s3 : Int32 × Int32) => G yX12_lostWith cX12_lostWith 5 (some .int) 1 15 [(0, .ref a0), (1, .int a1), (2, .int a2), (3, .int s3.1), (4, .int s3.2)] [] M (some (.int o)) M) (fun (e3 : Int32) => G yX12_lostWith cX12_lostWith 5 (some .int) 1 54 [(3, .int e3)] [] M (some (.int o)) M) h ?_ ?_
  · intro e3 h
    show G yX12_lostWith cX12_lostWith 5 (some .int) 1 54 [(3, .int e3)] [] M (some (.int o)) M
    refine G.iload_n dX12_lostWith_54 rfl rfl ?_
    exact G.iret dX12_lostWith_55 rfl (rfl) h
  · intro s3 x3 h K3
    show G yX12_lostWith cX12_lostWith 5 (some .int) 1 15 [(0, .ref a0), (1, .int a1), (2, .int a2), (3, .int s3.1), (4, .int s3.2)] [] M (some (.int o)) M
    refine G.iload dX12_lostWith_15 rfl ?_
    refine G.aload_n dX12_lostWith_17 rfl rfl ?_
    refine G.iconst (1 : Int32) dX12_lostWith_18 ki_1 ?_
    refine G.callVi (ci := 12) [.int (1 : Int32)] [.int s3.2] dX12_lostWith_19 lkX12_383 okX12_has rfl (fun v hv => C_X12_has hv) (Nat.le_of_ble_eq_true rfl) rfl rfl (Nat.le_of_ble_eq_true rfl) h (fun v4 h => ?_)
    refine G.icmp_ge 54 dX12_lostWith_22 (by decide) h (fun c5 h => ?_) (fun c5 h => ?_)
    · refine G.sub (lv' := [(3, .int s3.1)]) [3] rfl ?_
      have h := leafR' h K3
      exact h
    · refine G.iload dX12_lostWith_25 rfl ?_
      refine G.iload_n dX12_lostWith_27 rfl rfl ?_
      refine jn_elim (fun j7 => ∀ (u6 : Int32), j7 u6 = some x3 → G yX12_lostWith cX12_lostWith 5 (some .int) 1 48 [(0, .ref a0), (1, .int a1), (2, .int a2), (3, .int u6), (4, .int s3.2)] [] M (some (.int o)) M) h ?_ ?_
      · intro u6 h
        refine G.iinc s3.2 (w := (s3.2 + (1 : Int32))) (lv' := [(4, .int (s3.2 + (1 : Int32))), (0, .ref a0), (1, .int a1), (2, .int a2), (3, .int u6)]) dX12_lostWith_48 rfl rfl (Nat.le_of_ble_eq_true rfl) rfl ?_
        refine G.goto 15 dX12_lostWith_51 (by decide) ?_
        refine G.sub (lv' := [(0, .ref a0), (1, .int a1), (2, .int a2), (3, .int u6), (4, .int (s3.2 + (1 : Int32)))]) [1, 2, 3, 4, 0] rfl ?_
        have h := leafL' h K3
        exact h
      · intro j7 Jj7 h
        refine G.icmp_eq 48 dX12_lostWith_28 (by decide) h (fun c8 h => ?_) (fun c8 h => ?_)
        · refine G.sub (lv' := [(0, .ref a0), (1, .int a1), (2, .int a2), (3, .int s3.1), (4, .int s3.2)]) [0, 1, 2, 3, 4] rfl ?_
          exact Jj7 _ h
        · refine G.iload_n dX12_lostWith_31 rfl rfl ?_
          refine G.aload_n dX12_lostWith_32 rfl rfl ?_
          refine G.getR dX12_lostWith_33 fkX12_164 fr12_68 h (fun v9 h => ?_)
          refine G.bipush (10 : Int32) dX12_lostWith_36 kb_10 ?_
          refine G.iload_n dX12_lostWith_38 rfl rfl ?_
          refine G.imul dX12_lostWith_39 ?_
          refine G.iload dX12_lostWith_40 rfl ?_
          refine G.iadd dX12_lostWith_42 ?_
          refine G.iald dX12_lostWith_43 h (fun v10 h => ?_)
          refine G.iconst (-1 : Int32) dX12_lostWith_44 ki_m1 ?_
          refine G.ixor dX12_lostWith_45 ?_
          refine G.iand dX12_lostWith_46 ?_
          refine G.istore_n (lv' := [(3, .int (s3.1 &&& (v10 ^^^ (-1 : Int32)))), (0, .ref a0), (1, .int a1), (2, .int a2), (4, .int s3.2)]) dX12_lostWith_47 rfl (Nat.le_of_ble_eq_true rfl) rfl ?_
          refine G.sub (lv' := [(0, .ref a0), (1, .int a1), (2, .int a2), (3, .int (s3.1 &&& (v10 ^^^ (-1 : Int32)))), (4, .int s3.2)]) [1, 2, 3, 0, 4] rfl ?_
          exact Jj7 _ h
-- OnlyUpwardModel.lost(II)I
set_option maxRecDepth 100000 in
set_option maxHeartbeats 4000000 in
def F_X12_lost (n : Nat) (M : AM) (a0 : Nat) (a1 : Int32) (a2 : Int32) : Option (Int32 × AM) :=
  (rcv 12 M a0 (F_X12_isPerson n M a0 a1)).bind fun v1 => if v1 = 0 then some ((-1 : Int32), M) else (F_X12_isEnd n M a2).bind fun v3 => if v3 = 0 then some ((-1 : Int32), M) else (rcv 12 M a0 (F_X12_goesAsTold n M a0)).bind fun M6 => (rcv 12 M6 a0 (F_X12_lostWith n M6 a0 a1 a2)).bind fun v7 => some (v7, M6)
set_option maxRecDepth 100000 in
set_option maxHeartbeats 4000000 in
theorem C_X12_lost {n : Nat} {M : AM} {a0 : Nat} {a1 : Int32} {a2 : Int32} {o : (Int32 × AM)} (h : F_X12_lost n M a0 a1 a2 = some o) : Cn yX12_lost cX12_lost 3 (some .int) 7 [.ref a0, .int a1, .int a2] M (some (.int o.1)) o.2 := by
  unfold F_X12_lost at h
  refine Cn.of rfl (Nat.le_of_ble_eq_true rfl) ?_
  show G yX12_lost cX12_lost 3 (some .int) 7 0 [(0, .ref a0), (1, .int a1), (2, .int a2)] [] M (some (.int o.1)) o.2
  refine G.aload_n dX12_lost_0 rfl rfl ?_
  refine G.iload_n dX12_lost_1 rfl rfl ?_
  refine G.callVi (ci := 12) [.int a1] [] dX12_lost_2 lkX12_415 okX12_isPerson rfl (fun v hv => C_X12_isPerson hv) (Nat.le_of_ble_eq_true rfl) rfl rfl (Nat.le_of_ble_eq_true rfl) h (fun v1 h => ?_)
  refine G.if_eq 15 dX12_lost_5 (by decide) h (fun c2 h => ?_) (fun c2 h => ?_)
  · refine G.iconst (-1 : Int32) dX12_lost_15 ki_m1 ?_
    exact G.iretW dX12_lost_16 rfl (rfl) h
  · refine G.iload_n dX12_lost_8 rfl rfl ?_
    refine G.callSi [.int a2] [] dX12_lost_9 lkX12_478 okX12_isEnd (fun v hv => C_X12_isEnd hv) (Nat.le_of_ble_eq_true rfl) rfl rfl (Nat.le_of_ble_eq_true rfl) h (fun v3 h => ?_)
    refine G.if_ne 17 dX12_lost_12 (by decide) h (fun c4 h => ?_) (fun c4 h => ?_)
    · refine G.iconst (-1 : Int32) dX12_lost_15 ki_m1 ?_
      exact G.iretW dX12_lost_16 rfl (rfl) h
    · refine G.aload_n dX12_lost_17 rfl rfl ?_
      refine G.callVv (ci := 12) [] [] dX12_lost_18 lkX12_472 okX12_goesAsTold rfl (fun v hv => C_X12_goesAsTold hv) (Nat.le_of_ble_eq_true rfl) rfl rfl (Nat.le_of_ble_eq_true rfl) h (fun M6 h => ?_)
      refine G.aload_n dX12_lost_21 rfl rfl ?_
      refine G.iload_n dX12_lost_22 rfl rfl ?_
      refine G.iload_n dX12_lost_23 rfl rfl ?_
      refine G.callVi (ci := 12) [.int a1, .int a2] [] dX12_lost_24 lkX12_526 okX12_lostWith rfl (fun v hv => C_X12_lostWith hv) (Nat.le_of_ble_eq_true rfl) rfl rfl (Nat.le_of_ble_eq_true rfl) h (fun v7 h => ?_)
      exact G.iretW dX12_lost_27 rfl (rfl) h
-- OnlyUpwardModel.before(II)I
set_option maxRecDepth 100000 in
set_option maxHeartbeats 4000000 in
def F_X12_before (n : Nat) (M : AM) (a0 : Nat) (a1 : Int32) (a2 : Int32) : Option (Int32 × AM) :=
  (rcv 12 M a0 (F_X12_isPerson n M a0 a1)).bind fun v1 => if v1 = 0 then some ((-1 : Int32), M) else (F_X12_isEnd n M a2).bind fun v3 => if v3 = 0 then some ((-1 : Int32), M) else (rcv 12 M a0 (F_X12_goesAsTold n M a0)).bind fun M6 => (rcv 12 M6 a0 (F_X12_lostWith n M6 a0 a1 a2)).bind fun v7 => (iter (fun (s8 : Int32 × Int32) => (rcv 12 M6 a0 (F_X12_has n M6 a0 (2 : Int32))).bind fun v9 => if v9 ≤ s8.2 then some (.inr s8.1) else jn (fun (u11 : Int32) => some (.inl (u11, (s8.2 + (1 : Int32))))) fun j12 => if ((v7 >>> (s8.2 &&& 31)) &&& (1 : Int32)) = (1 : Int32) then jn (j12 s8.2) fun j14 => if s8.1 < 0 then j14 else (gR 12 28 M6 a0).bind fun v16 => (gI 12 18 M6 a0).bind fun v17 => (rdI M6 v16 (((6 : Int32) * v17) + s8.2)).bind fun v18 => (gR 12 28 M6 a0).bind fun v19 => (gI 12 18 M6 a0).bind fun v20 => (rdI M6 v19 (((6 : Int32) * v20) + s8.1)).bind fun v21 => if v18 ≤ v21 then j12 s8.1 else j14 else j12 s8.1) n ((-2 : Int32), (0 : Int32))).bind fun (e8 : Int32) => some (e8, M6)
set_option maxRecDepth 100000 in
set_option maxHeartbeats 4000000 in
theorem C_X12_before {n : Nat} {M : AM} {a0 : Nat} {a1 : Int32} {a2 : Int32} {o : (Int32 × AM)} (h : F_X12_before n M a0 a1 a2 = some o) : Cn yX12_before cX12_before 6 (some .int) 7 [.ref a0, .int a1, .int a2] M (some (.int o.1)) o.2 := by
  unfold F_X12_before at h
  refine Cn.of rfl (Nat.le_of_ble_eq_true rfl) ?_
  show G yX12_before cX12_before 6 (some .int) 7 0 [(0, .ref a0), (1, .int a1), (2, .int a2)] [] M (some (.int o.1)) o.2
  refine G.aload_n dX12_before_0 rfl rfl ?_
  refine G.iload_n dX12_before_1 rfl rfl ?_
  refine G.callVi (ci := 12) [.int a1] [] dX12_before_2 lkX12_415 okX12_isPerson rfl (fun v hv => C_X12_isPerson hv) (Nat.le_of_ble_eq_true rfl) rfl rfl (Nat.le_of_ble_eq_true rfl) h (fun v1 h => ?_)
  refine G.if_eq 15 dX12_before_5 (by decide) h (fun c2 h => ?_) (fun c2 h => ?_)
  · refine G.iconst (-1 : Int32) dX12_before_15 ki_m1 ?_
    exact G.iretW dX12_before_16 rfl (rfl) h
  · refine G.iload_n dX12_before_8 rfl rfl ?_
    refine G.callSi [.int a2] [] dX12_before_9 lkX12_478 okX12_isEnd (fun v hv => C_X12_isEnd hv) (Nat.le_of_ble_eq_true rfl) rfl rfl (Nat.le_of_ble_eq_true rfl) h (fun v3 h => ?_)
    refine G.if_ne 17 dX12_before_12 (by decide) h (fun c4 h => ?_) (fun c4 h => ?_)
    · refine G.iconst (-1 : Int32) dX12_before_15 ki_m1 ?_
      exact G.iretW dX12_before_16 rfl (rfl) h
    · refine G.aload_n dX12_before_17 rfl rfl ?_
      refine G.callVv (ci := 12) [] [] dX12_before_18 lkX12_472 okX12_goesAsTold rfl (fun v hv => C_X12_goesAsTold hv) (Nat.le_of_ble_eq_true rfl) rfl rfl (Nat.le_of_ble_eq_true rfl) h (fun M6 h => ?_)
      refine G.aload_n dX12_before_21 rfl rfl ?_
      refine G.iload_n dX12_before_22 rfl rfl ?_
      refine G.iload_n dX12_before_23 rfl rfl ?_
      refine G.callVi (ci := 12) [.int a1, .int a2] [] dX12_before_24 lkX12_526 okX12_lostWith rfl (fun v hv => C_X12_lostWith hv) (Nat.le_of_ble_eq_true rfl) rfl rfl (Nat.le_of_ble_eq_true rfl) h (fun v7 h => ?_)
      refine G.istore_n (lv' := [(3, .int v7), (0, .ref a0), (1, .int a1), (2, .int a2)]) dX12_before_27 rfl (Nat.le_of_ble_eq_true rfl) rfl ?_
      refine G.bipush (-2 : Int32) dX12_before_28 kb_m2 ?_
      refine G.istore (lv' := [(4, .int (-2 : Int32)), (3, .int v7), (0, .ref a0), (1, .int a1), (2, .int a2)]) dX12_before_30 (Nat.le_of_ble_eq_true rfl) rfl ?_
      refine G.iconst (0 : Int32) dX12_before_32 ki_0 ?_
      refine G.istore (lv' := [(5, .int (0 : Int32)), (4, .int (-2 : Int32)), (3, .int v7), (0, .ref a0), (1, .int a1), (2, .int a2)]) dX12_before_33 (Nat.le_of_ble_eq_true rfl) rfl ?_
      refine G.sub (lv' := [(0, .ref a0), (3, .int v7), (4, .int (-2 : Int32)), (5, .int (0 : Int32))]) [3, 2, 1, 0] rfl ?_
      refine loopE (fun (s8 : Int32 × Int32) => G yX12_before cX12_before 6 (some .int) 7 35 [(0, .ref a0), (3, .int v7), (4, .int s8.1), (5, .int s8.2)] [] M6 (some (.int o.1)) o.2) (fun (e8 : Int32) => G yX12_before cX12_before 6 (some .int) 7 103 [(4, .int e8)] [] M6 (some (.int o.1)) o.2) h ?_ ?_
      · intro e8 h
        show G yX12_before cX12_before 6 (some .int) 7 103 [(4, .int e8)] [] M6 (some (.int o.1)) o.2
        refine G.iload dX12_before_103 rfl ?_
        exact G.iretW dX12_before_105 rfl (rfl) h
      · intro s8 x8 h K8
        show G yX12_before cX12_before 6 (some .int) 7 35 [(0, .ref a0), (3, .int v7), (4, .int s8.1), (5, .int s8.2)] [] M6 (some (.int o.1)) o.2
        refine G.iload dX12_before_35 rfl ?_
        refine G.aload_n dX12_before_37 rfl rfl ?_
        refine G.iconst (2 : Int32) dX12_before_38 ki_2 ?_
        refine G.callVi (ci := 12) [.int (2 : Int32)] [.int s8.2] dX12_before_39 lkX12_383 okX12_has rfl (fun v hv => C_X12_has hv) (Nat.le_of_ble_eq_true rfl) rfl rfl (Nat.le_of_ble_eq_true rfl) h (fun v9 h => ?_)
        refine G.icmp_ge 103 dX12_before_42 (by decide) h (fun c10 h => ?_) (fun c10 h => ?_)
        · refine G.sub (lv' := [(4, .int s8.1)]) [2] rfl ?_
          have h := leafR' h K8
          exact h
        · refine G.iload_n dX12_before_45 rfl rfl ?_
          refine G.iload dX12_before_46 rfl ?_
          refine G.ishr dX12_before_48 ?_
          refine G.iconst (1 : Int32) dX12_before_49 ki_1 ?_
          refine G.iand dX12_before_50 ?_
          refine G.iconst (1 : Int32) dX12_before_51 ki_1 ?_
          refine jn_elim (fun j12 => ∀ (u11 : Int32), j12 u11 = some x8 → G yX12_before cX12_before 6 (some .int) 7 97 [(0, .ref a0), (3, .int v7), (4, .int u11), (5, .int s8.2)] [] M6 (some (.int o.1)) o.2) h ?_ ?_
          · intro u11 h
            refine G.iinc s8.2 (w := (s8.2 + (1 : Int32))) (lv' := [(5, .int (s8.2 + (1 : Int32))), (0, .ref a0), (3, .int v7), (4, .int u11)]) dX12_before_97 rfl rfl (Nat.le_of_ble_eq_true rfl) rfl ?_
            refine G.goto 35 dX12_before_100 (by decide) ?_
            refine G.sub (lv' := [(0, .ref a0), (3, .int v7), (4, .int u11), (5, .int (s8.2 + (1 : Int32)))]) [1, 2, 3, 0] rfl ?_
            have h := leafL' h K8
            exact h
          · intro j12 Jj12 h
            refine G.icmp_ne 97 dX12_before_52 (by decide) h (fun c13 h => ?_) (fun c13 h => ?_)
            · refine G.iload dX12_before_55 rfl ?_
              refine jn_elim (fun j14 => j14 = some x8 → G yX12_before cX12_before 6 (some .int) 7 93 [(0, .ref a0), (3, .int v7), (5, .int s8.2)] [] M6 (some (.int o.1)) o.2) h ?_ ?_
              · intro h
                refine G.iload dX12_before_93 rfl ?_
                refine G.istore (lv' := [(4, .int s8.2), (0, .ref a0), (3, .int v7), (5, .int s8.2)]) dX12_before_95 (Nat.le_of_ble_eq_true rfl) rfl ?_
                refine G.sub (lv' := [(0, .ref a0), (3, .int v7), (4, .int s8.2), (5, .int s8.2)]) [1, 2, 0, 3] rfl ?_
                exact Jj12 _ h
              · intro j14 Jj14 h
                refine G.if_lt 93 dX12_before_57 (by decide) h (fun c15 h => ?_) (fun c15 h => ?_)
                · refine G.sub (lv' := [(0, .ref a0), (3, .int v7), (5, .int s8.2)]) [0, 1, 3] rfl ?_
                  exact Jj14  h
                · refine G.aload_n dX12_before_60 rfl rfl ?_
                  refine G.getR dX12_before_61 fkX12_61 fr12_28 h (fun v16 h => ?_)
                  refine G.bipush (6 : Int32) dX12_before_64 kb_6 ?_
                  refine G.aload_n dX12_before_66 rfl rfl ?_
                  refine G.getI dX12_before_67 fkX12_290 fr12_18 h (fun v17 h => ?_)
                  refine G.imul dX12_before_70 ?_
                  refine G.iload dX12_before_71 rfl ?_
                  refine G.iadd dX12_before_73 ?_
                  refine G.iald dX12_before_74 h (fun v18 h => ?_)
                  refine G.aload_n dX12_before_75 rfl rfl ?_
                  refine G.getR dX12_before_76 fkX12_61 fr12_28 h (fun v19 h => ?_)
                  refine G.bipush (6 : Int32) dX12_before_79 kb_6 ?_
                  refine G.aload_n dX12_before_81 rfl rfl ?_
                  refine G.getI dX12_before_82 fkX12_290 fr12_18 h (fun v20 h => ?_)
                  refine G.imul dX12_before_85 ?_
                  refine G.iload dX12_before_86 rfl ?_
                  refine G.iadd dX12_before_88 ?_
                  refine G.iald dX12_before_89 h (fun v21 h => ?_)
                  refine G.icmp_le 97 dX12_before_90 (by decide) h (fun c22 h => ?_) (fun c22 h => ?_)
                  · refine G.sub (lv' := [(0, .ref a0), (3, .int v7), (4, .int s8.1), (5, .int s8.2)]) [0, 1, 2, 3] rfl ?_
                    exact Jj12 _ h
                  · refine G.sub (lv' := [(0, .ref a0), (3, .int v7), (5, .int s8.2)]) [0, 1, 3] rfl ?_
                    exact Jj14  h
            · refine G.sub (lv' := [(0, .ref a0), (3, .int v7), (4, .int s8.1), (5, .int s8.2)]) [0, 1, 2, 3] rfl ?_
              exact Jj12 _ h
-- OnlyUpwardModel.isMissed(I)Z
set_option maxRecDepth 100000 in
set_option maxHeartbeats 4000000 in
def F_X12_isMissed (n : Nat) (M : AM) (a0 : Nat) (a1 : Int32) : Option Int32 :=
  (gI 12 18 M a0).bind fun v1 => (gR 12 37 M a0).bind fun v2 => (rdI M v2 (((12 : Int32) * v1) + a1)).bind fun v3 => (gR 12 39 M a0).bind fun v4 => (rdI M v4 (((12 : Int32) * v1) + a1)).bind fun v5 => (gR 12 38 M a0).bind fun v6 => (rdI M v6 (((12 : Int32) * v1) + a1)).bind fun v7 => (rcv 12 M a0 (F_X12_knowsIt n M a0 v3 v5 v7)).bind fun v8 => if v8 = 0 then some (1 : Int32) else some (0 : Int32)
set_option maxRecDepth 100000 in
set_option maxHeartbeats 4000000 in
theorem C_X12_isMissed {n : Nat} {M : AM} {a0 : Nat} {a1 : Int32} {o : Int32} (h : F_X12_isMissed n M a0 a1 = some o) : Cn yX12_isMissed cX12_isMissed 3 (some .boolean) 1 [.ref a0, .int a1] M (some (.int o)) M := by
  unfold F_X12_isMissed at h
  refine Cn.of rfl (Nat.le_of_ble_eq_true rfl) ?_
  show G yX12_isMissed cX12_isMissed 3 (some .boolean) 1 0 [(0, .ref a0), (1, .int a1)] [] M (some (.int o)) M
  refine G.bipush (12 : Int32) dX12_isMissed_0 kb_12 ?_
  refine G.aload_n dX12_isMissed_2 rfl rfl ?_
  refine G.getI dX12_isMissed_3 fkX12_290 fr12_18 h (fun v1 h => ?_)
  refine G.imul dX12_isMissed_6 ?_
  refine G.iload_n dX12_isMissed_7 rfl rfl ?_
  refine G.iadd dX12_isMissed_8 ?_
  refine G.istore_n (lv' := [(2, .int (((12 : Int32) * v1) + a1)), (0, .ref a0), (1, .int a1)]) dX12_isMissed_9 rfl (Nat.le_of_ble_eq_true rfl) rfl ?_
  refine G.aload_n dX12_isMissed_10 rfl rfl ?_
  refine G.aload_n dX12_isMissed_11 rfl rfl ?_
  refine G.getR dX12_isMissed_12 fkX12_88 fr12_37 h (fun v2 h => ?_)
  refine G.iload_n dX12_isMissed_15 rfl rfl ?_
  refine G.iald dX12_isMissed_16 h (fun v3 h => ?_)
  refine G.aload_n dX12_isMissed_17 rfl rfl ?_
  refine G.getR dX12_isMissed_18 fkX12_94 fr12_39 h (fun v4 h => ?_)
  refine G.iload_n dX12_isMissed_21 rfl rfl ?_
  refine G.iald dX12_isMissed_22 h (fun v5 h => ?_)
  refine G.aload_n dX12_isMissed_23 rfl rfl ?_
  refine G.getR dX12_isMissed_24 fkX12_91 fr12_38 h (fun v6 h => ?_)
  refine G.iload_n dX12_isMissed_27 rfl rfl ?_
  refine G.iald dX12_isMissed_28 h (fun v7 h => ?_)
  refine G.callVi (ci := 12) [.int v3, .int v5, .int v7] [] dX12_isMissed_29 lkX12_444 okX12_knowsIt rfl (fun v hv => C_X12_knowsIt hv) (Nat.le_of_ble_eq_true rfl) rfl rfl (Nat.le_of_ble_eq_true rfl) h (fun v8 h => ?_)
  refine G.if_ne 39 dX12_isMissed_32 (by decide) h (fun c9 h => ?_) (fun c9 h => ?_)
  · refine G.iconst (1 : Int32) dX12_isMissed_35 ki_1 ?_
    refine G.goto 40 dX12_isMissed_36 (by decide) ?_
    exact G.iret dX12_isMissed_40 rfl (by decide) h
  · refine G.iconst (0 : Int32) dX12_isMissed_39 ki_0 ?_
    exact G.iret dX12_isMissed_40 rfl (by decide) h
-- OnlyUpwardModel.missed(I)I
set_option maxRecDepth 100000 in
set_option maxHeartbeats 4000000 in
def F_X12_missed (n : Nat) (M : AM) (a0 : Nat) (a1 : Int32) : Option (Int32 × AM) :=
  (rcv 12 M a0 (F_X12_goesAsTold n M a0)).bind fun M2 => (iter (fun (s3 : Int32 × Int32) => (rcv 12 M2 a0 (F_X12_has n M2 a0 (6 : Int32))).bind fun v4 => if v4 ≤ s3.2 then some (.inr (.inl s3.1)) else (rcv 12 M2 a0 (F_X12_isMissed n M2 a0 s3.2)).bind fun v6 => jn (fun (u7 : Int32) => some (.inl (u7, (s3.2 + (1 : Int32))))) fun j8 => if v6 = 0 then j8 s3.1 else if s3.1 = a1 then some (.inr (.inr (s3.2, M2))) else j8 (s3.1 + (1 : Int32))) n ((0 : Int32), (0 : Int32))).bind fun (z3 : (Int32) ⊕ (Int32 × AM)) => Sum.elim (fun (e3 : Int32) => if a1 = (-1 : Int32) then some (e3, M2) else some ((-1 : Int32), M2)) (fun (v : (Int32 × AM)) => some v) z3
set_option maxRecDepth 100000 in
set_option maxHeartbeats 4000000 in
theorem C_X12_missed {n : Nat} {M : AM} {a0 : Nat} {a1 : Int32} {o : (Int32 × AM)} (h : F_X12_missed n M a0 a1 = some o) : Cn yX12_missed cX12_missed 4 (some .int) 7 [.ref a0, .int a1] M (some (.int o.1)) o.2 := by
  unfold F_X12_missed at h
  refine Cn.of rfl (Nat.le_of_ble_eq_true rfl) ?_
  show G yX12_missed cX12_missed 4 (some .int) 7 0 [(0, .ref a0), (1, .int a1)] [] M (some (.int o.1)) o.2
  refine G.aload_n dX12_missed_0 rfl rfl ?_
  refine G.callVv (ci := 12) [] [] dX12_missed_1 lkX12_472 okX12_goesAsTold rfl (fun v hv => C_X12_goesAsTold hv) (Nat.le_of_ble_eq_true rfl) rfl rfl (Nat.le_of_ble_eq_true rfl) h (fun M2 h => ?_)
  refine G.iconst (0 : Int32) dX12_missed_4 ki_0 ?_
  refine G.istore_n (lv' := [(2, .int (0 : Int32)), (0, .ref a0), (1, .int a1)]) dX12_missed_5 rfl (Nat.le_of_ble_eq_true rfl) rfl ?_
  refine G.iconst (0 : Int32) dX12_missed_6 ki_0 ?_
  refine G.istore_n (lv' := [(3, .int (0 : Int32)), (2, .int (0 : Int32)), (0, .ref a0), (1, .int a1)]) dX12_missed_7 rfl (Nat.le_of_ble_eq_true rfl) rfl ?_
  refine G.sub (lv' := [(0, .ref a0), (1, .int a1), (2, .int (0 : Int32)), (3, .int (0 : Int32))]) [2, 3, 1, 0] rfl ?_
  refine loopE (fun (s3 : Int32 × Int32) => G yX12_missed cX12_missed 4 (some .int) 7 8 [(0, .ref a0), (1, .int a1), (2, .int s3.1), (3, .int s3.2)] [] M2 (some (.int o.1)) o.2) (fun (z3 : (Int32) ⊕ (Int32 × AM)) => Sum.elim (fun (e3 : Int32) => G yX12_missed cX12_missed 4 (some .int) 7 45 [(1, .int a1), (2, .int e3)] [] M2 (some (.int o.1)) o.2) (fun (v : (Int32 × AM)) => some v = some o) z3) h ?_ ?_
  · intro z3 h
    rcases z3 with e3 | v
    · have h := sum_inl h
      show G yX12_missed cX12_missed 4 (some .int) 7 45 [(1, .int a1), (2, .int e3)] [] M2 (some (.int o.1)) o.2
      refine G.iload_n dX12_missed_45 rfl rfl ?_
      refine G.iconst (-1 : Int32) dX12_missed_46 ki_m1 ?_
      refine G.icmp_ne 54 dX12_missed_47 (by decide) h (fun c11 h => ?_) (fun c11 h => ?_)
      · refine G.iload_n dX12_missed_50 rfl rfl ?_
        refine G.goto 55 dX12_missed_51 (by decide) ?_
        exact G.iretW dX12_missed_55 rfl (rfl) h
      · refine G.iconst (-1 : Int32) dX12_missed_54 ki_m1 ?_
        exact G.iretW dX12_missed_55 rfl (rfl) h
    · have h := sum_inr h
      exact h
  · intro s3 x3 h K3
    show G yX12_missed cX12_missed 4 (some .int) 7 8 [(0, .ref a0), (1, .int a1), (2, .int s3.1), (3, .int s3.2)] [] M2 (some (.int o.1)) o.2
    refine G.iload_n dX12_missed_8 rfl rfl ?_
    refine G.aload_n dX12_missed_9 rfl rfl ?_
    refine G.bipush (6 : Int32) dX12_missed_10 kb_6 ?_
    refine G.callVi (ci := 12) [.int (6 : Int32)] [.int s3.2] dX12_missed_12 lkX12_383 okX12_has rfl (fun v hv => C_X12_has hv) (Nat.le_of_ble_eq_true rfl) rfl rfl (Nat.le_of_ble_eq_true rfl) h (fun v4 h => ?_)
    refine G.icmp_ge 45 dX12_missed_15 (by decide) h (fun c5 h => ?_) (fun c5 h => ?_)
    · refine G.sub (lv' := [(1, .int a1), (2, .int s3.1)]) [1, 2] rfl ?_
      have h := leafR' h K3
      exact h
    · refine G.aload_n dX12_missed_18 rfl rfl ?_
      refine G.iload_n dX12_missed_19 rfl rfl ?_
      refine G.callVi (ci := 12) [.int s3.2] [] dX12_missed_20 lkX12_529 okX12_isMissed rfl (fun v hv => C_X12_isMissed hv) (Nat.le_of_ble_eq_true rfl) rfl rfl (Nat.le_of_ble_eq_true rfl) h (fun v6 h => ?_)
      refine jn_elim (fun j8 => ∀ (u7 : Int32), j8 u7 = some x3 → G yX12_missed cX12_missed 4 (some .int) 7 39 [(0, .ref a0), (1, .int a1), (2, .int u7), (3, .int s3.2)] [] M2 (some (.int o.1)) o.2) h ?_ ?_
      · intro u7 h
        refine G.iinc s3.2 (w := (s3.2 + (1 : Int32))) (lv' := [(3, .int (s3.2 + (1 : Int32))), (0, .ref a0), (1, .int a1), (2, .int u7)]) dX12_missed_39 rfl rfl (Nat.le_of_ble_eq_true rfl) rfl ?_
        refine G.goto 8 dX12_missed_42 (by decide) ?_
        refine G.sub (lv' := [(0, .ref a0), (1, .int a1), (2, .int u7), (3, .int (s3.2 + (1 : Int32)))]) [1, 2, 3, 0] rfl ?_
        have h := leafL' h K3
        exact h
      · intro j8 Jj8 h
        refine G.if_ne 29 dX12_missed_23 (by decide) h (fun c9 h => ?_) (fun c9 h => ?_)
        · refine G.goto 39 dX12_missed_26 (by decide) ?_
          refine G.sub (lv' := [(0, .ref a0), (1, .int a1), (2, .int s3.1), (3, .int s3.2)]) [0, 1, 2, 3] rfl ?_
          exact Jj8 _ h
        · refine G.iload_n dX12_missed_29 rfl rfl ?_
          refine G.iload_n dX12_missed_30 rfl rfl ?_
          refine G.icmp_ne 36 dX12_missed_31 (by decide) h (fun c10 h => ?_) (fun c10 h => ?_)
          · refine G.iload_n dX12_missed_34 rfl rfl ?_
            have h := leafR' h K3
            exact G.iretW dX12_missed_35 rfl (rfl) h
          · refine G.iinc s3.1 (w := (s3.1 + (1 : Int32))) (lv' := [(2, .int (s3.1 + (1 : Int32))), (0, .ref a0), (1, .int a1), (3, .int s3.2)]) dX12_missed_36 rfl rfl (Nat.le_of_ble_eq_true rfl) rfl ?_
            refine G.sub (lv' := [(0, .ref a0), (1, .int a1), (2, .int (s3.1 + (1 : Int32))), (3, .int s3.2)]) [1, 2, 0, 3] rfl ?_
            exact Jj8 _ h
-- OnlyUpwardModel.worthOfMust(I)I
set_option maxRecDepth 100000 in
set_option maxHeartbeats 4000000 in
def F_X12_worthOfMust (n : Nat) (M : AM) (a0 : Nat) (a1 : Int32) : Option Int32 :=
  (gR 12 28 M a0).bind fun v1 => (gI 12 18 M a0).bind fun v2 => (gR 12 38 M a0).bind fun v3 => (gI 12 18 M a0).bind fun v4 => (rdI M v3 (((12 : Int32) * v4) + a1)).bind fun v5 => (rdI M v1 (((6 : Int32) * v2) + v5)).bind fun v6 => some v6
set_option maxRecDepth 100000 in
set_option maxHeartbeats 4000000 in
theorem C_X12_worthOfMust {n : Nat} {M : AM} {a0 : Nat} {a1 : Int32} {o : Int32} (h : F_X12_worthOfMust n M a0 a1 = some o) : Cn yX12_worthOfMust cX12_worthOfMust 2 (some .int) 0 [.ref a0, .int a1] M (some (.int o)) M := by
  unfold F_X12_worthOfMust at h
  refine Cn.of rfl (Nat.le_of_ble_eq_true rfl) ?_
  show G yX12_worthOfMust cX12_worthOfMust 2 (some .int) 0 0 [(0, .ref a0), (1, .int a1)] [] M (some (.int o)) M
  refine G.aload_n dX12_worthOfMust_0 rfl rfl ?_
  refine G.getR dX12_worthOfMust_1 fkX12_61 fr12_28 h (fun v1 h => ?_)
  refine G.bipush (6 : Int32) dX12_worthOfMust_4 kb_6 ?_
  refine G.aload_n dX12_worthOfMust_6 rfl rfl ?_
  refine G.getI dX12_worthOfMust_7 fkX12_290 fr12_18 h (fun v2 h => ?_)
  refine G.imul dX12_worthOfMust_10 ?_
  refine G.aload_n dX12_worthOfMust_11 rfl rfl ?_
  refine G.getR dX12_worthOfMust_12 fkX12_91 fr12_38 h (fun v3 h => ?_)
  refine G.bipush (12 : Int32) dX12_worthOfMust_15 kb_12 ?_
  refine G.aload_n dX12_worthOfMust_17 rfl rfl ?_
  refine G.getI dX12_worthOfMust_18 fkX12_290 fr12_18 h (fun v4 h => ?_)
  refine G.imul dX12_worthOfMust_21 ?_
  refine G.iload_n dX12_worthOfMust_22 rfl rfl ?_
  refine G.iadd dX12_worthOfMust_23 ?_
  refine G.iald dX12_worthOfMust_24 h (fun v5 h => ?_)
  refine G.iadd dX12_worthOfMust_25 ?_
  refine G.iald dX12_worthOfMust_26 h (fun v6 h => ?_)
  exact G.iret dX12_worthOfMust_27 rfl (rfl) h
-- OnlyUpwardModel.harmNow()I
set_option maxRecDepth 100000 in
set_option maxHeartbeats 4000000 in
def F_X12_harmNow (n : Nat) (M : AM) (a0 : Nat) : Option Int32 :=
  (iter (fun (s1 : Int32 × Int32) => (rcv 12 M a0 (F_X12_has n M a0 (6 : Int32))).bind fun v2 => if v2 ≤ s1.2 then some (.inr s1.1) else (rcv 12 M a0 (F_X12_isMissed n M a0 s1.2)).bind fun v4 => jn (fun (u5 : Int32) => some (.inl (u5, (s1.2 + (1 : Int32))))) fun j6 => if v4 = 0 then j6 s1.1 else (rcv 12 M a0 (F_X12_worthOfMust n M a0 s1.2)).bind fun v8 => j6 (s1.1 + v8)) n ((0 : Int32), (0 : Int32))).bind fun (e1 : Int32) => some e1
set_option maxRecDepth 100000 in
set_option maxHeartbeats 4000000 in
theorem C_X12_harmNow {n : Nat} {M : AM} {a0 : Nat} {o : Int32} (h : F_X12_harmNow n M a0 = some o) : Cn yX12_harmNow cX12_harmNow 3 (some .int) 2 [.ref a0] M (some (.int o)) M := by
  unfold F_X12_harmNow at h
  refine Cn.of rfl (Nat.le_of_ble_eq_true rfl) ?_
  show G yX12_harmNow cX12_harmNow 3 (some .int) 2 0 [(0, .ref a0)] [] M (some (.int o)) M
  refine G.iconst (0 : Int32) dX12_harmNow_0 ki_0 ?_
  refine G.istore_n (lv' := [(1, .int (0 : Int32)), (0, .ref a0)]) dX12_harmNow_1 rfl (Nat.le_of_ble_eq_true rfl) rfl ?_
  refine G.iconst (0 : Int32) dX12_harmNow_2 ki_0 ?_
  refine G.istore_n (lv' := [(2, .int (0 : Int32)), (1, .int (0 : Int32)), (0, .ref a0)]) dX12_harmNow_3 rfl (Nat.le_of_ble_eq_true rfl) rfl ?_
  refine G.sub (lv' := [(0, .ref a0), (1, .int (0 : Int32)), (2, .int (0 : Int32))]) [2, 1, 0] rfl ?_
  refine loopE (fun (s1 : Int32 × Int32) => G yX12_harmNow cX12_harmNow 3 (some .int) 2 4 [(0, .ref a0), (1, .int s1.1), (2, .int s1.2)] [] M (some (.int o)) M) (fun (e1 : Int32) => G yX12_harmNow cX12_harmNow 3 (some .int) 2 36 [(1, .int e1)] [] M (some (.int o)) M) h ?_ ?_
  · intro e1 h
    show G yX12_harmNow cX12_harmNow 3 (some .int) 2 36 [(1, .int e1)] [] M (some (.int o)) M
    refine G.iload_n dX12_harmNow_36 rfl rfl ?_
    exact G.iret dX12_harmNow_37 rfl (rfl) h
  · intro s1 x1 h K1
    show G yX12_harmNow cX12_harmNow 3 (some .int) 2 4 [(0, .ref a0), (1, .int s1.1), (2, .int s1.2)] [] M (some (.int o)) M
    refine G.iload_n dX12_harmNow_4 rfl rfl ?_
    refine G.aload_n dX12_harmNow_5 rfl rfl ?_
    refine G.bipush (6 : Int32) dX12_harmNow_6 kb_6 ?_
    refine G.callVi (ci := 12) [.int (6 : Int32)] [.int s1.2] dX12_harmNow_8 lkX12_383 okX12_has rfl (fun v hv => C_X12_has hv) (Nat.le_of_ble_eq_true rfl) rfl rfl (Nat.le_of_ble_eq_true rfl) h (fun v2 h => ?_)
    refine G.icmp_ge 36 dX12_harmNow_11 (by decide) h (fun c3 h => ?_) (fun c3 h => ?_)
    · refine G.sub (lv' := [(1, .int s1.1)]) [1] rfl ?_
      have h := leafR' h K1
      exact h
    · refine G.aload_n dX12_harmNow_14 rfl rfl ?_
      refine G.iload_n dX12_harmNow_15 rfl rfl ?_
      refine G.callVi (ci := 12) [.int s1.2] [] dX12_harmNow_16 lkX12_529 okX12_isMissed rfl (fun v hv => C_X12_isMissed hv) (Nat.le_of_ble_eq_true rfl) rfl rfl (Nat.le_of_ble_eq_true rfl) h (fun v4 h => ?_)
      refine jn_elim (fun j6 => ∀ (u5 : Int32), j6 u5 = some x1 → G yX12_harmNow cX12_harmNow 3 (some .int) 2 30 [(0, .ref a0), (1, .int u5), (2, .int s1.2)] [] M (some (.int o)) M) h ?_ ?_
      · intro u5 h
        refine G.iinc s1.2 (w := (s1.2 + (1 : Int32))) (lv' := [(2, .int (s1.2 + (1 : Int32))), (0, .ref a0), (1, .int u5)]) dX12_harmNow_30 rfl rfl (Nat.le_of_ble_eq_true rfl) rfl ?_
        refine G.goto 4 dX12_harmNow_33 (by decide) ?_
        refine G.sub (lv' := [(0, .ref a0), (1, .int u5), (2, .int (s1.2 + (1 : Int32)))]) [1, 2, 0] rfl ?_
        have h := leafL' h K1
        exact h
      · intro j6 Jj6 h
        refine G.if_eq 30 dX12_harmNow_19 (by decide) h (fun c7 h => ?_) (fun c7 h => ?_)
        · refine G.sub (lv' := [(0, .ref a0), (1, .int s1.1), (2, .int s1.2)]) [0, 1, 2] rfl ?_
          exact Jj6 _ h
        · refine G.iload_n dX12_harmNow_22 rfl rfl ?_
          refine G.aload_n dX12_harmNow_23 rfl rfl ?_
          refine G.iload_n dX12_harmNow_24 rfl rfl ?_
          refine G.callVi (ci := 12) [.int s1.2] [.int s1.1] dX12_harmNow_25 lkX12_532 okX12_worthOfMust rfl (fun v hv => C_X12_worthOfMust hv) (Nat.le_of_ble_eq_true rfl) rfl rfl (Nat.le_of_ble_eq_true rfl) h (fun v8 h => ?_)
          refine G.iadd dX12_harmNow_28 ?_
          refine G.istore_n (lv' := [(1, .int (s1.1 + v8)), (0, .ref a0), (2, .int s1.2)]) dX12_harmNow_29 rfl (Nat.le_of_ble_eq_true rfl) rfl ?_
          refine G.sub (lv' := [(0, .ref a0), (1, .int (s1.1 + v8)), (2, .int s1.2)]) [1, 0, 2] rfl ?_
          exact Jj6 _ h
-- OnlyUpwardModel.harm()I
set_option maxRecDepth 100000 in
set_option maxHeartbeats 4000000 in
def F_X12_harm (n : Nat) (M : AM) (a0 : Nat) : Option (Int32 × AM) :=
  (rcv 12 M a0 (F_X12_goesAsTold n M a0)).bind fun M2 => (rcv 12 M2 a0 (F_X12_harmNow n M2 a0)).bind fun v3 => some (v3, M2)
set_option maxRecDepth 100000 in
set_option maxHeartbeats 4000000 in
theorem C_X12_harm {n : Nat} {M : AM} {a0 : Nat} {o : (Int32 × AM)} (h : F_X12_harm n M a0 = some o) : Cn yX12_harm cX12_harm 1 (some .int) 7 [.ref a0] M (some (.int o.1)) o.2 := by
  unfold F_X12_harm at h
  refine Cn.of rfl (Nat.le_of_ble_eq_true rfl) ?_
  show G yX12_harm cX12_harm 1 (some .int) 7 0 [(0, .ref a0)] [] M (some (.int o.1)) o.2
  refine G.aload_n dX12_harm_0 rfl rfl ?_
  refine G.callVv (ci := 12) [] [] dX12_harm_1 lkX12_472 okX12_goesAsTold rfl (fun v hv => C_X12_goesAsTold hv) (Nat.le_of_ble_eq_true rfl) rfl rfl (Nat.le_of_ble_eq_true rfl) h (fun M2 h => ?_)
  refine G.aload_n dX12_harm_4 rfl rfl ?_
  refine G.callVi (ci := 12) [] [] dX12_harm_5 lkX12_535 okX12_harmNow rfl (fun v hv => C_X12_harmNow hv) (Nat.le_of_ble_eq_true rfl) rfl rfl (Nat.le_of_ble_eq_true rfl) h (fun v3 h => ?_)
  exact G.iretW dX12_harm_8 rfl (rfl) h
-- OnlyUpwardModel.knowFirst(I)I
set_option maxRecDepth 100000 in
set_option maxHeartbeats 4000000 in
def F_X12_knowFirst (n : Nat) (M : AM) (a0 : Nat) (a1 : Int32) : Option Int32 :=
  (iter (fun (s1 : Int32 × Int32) => (rcv 12 M a0 (F_X12_has n M a0 (5 : Int32))).bind fun v2 => if v2 ≤ s1.2 then some (.inr s1.1) else (gR 12 36 M a0).bind fun v4 => (gI 12 18 M a0).bind fun v5 => (rdI M v4 (((12 : Int32) * v5) + s1.2)).bind fun v6 => jn (fun (u7 : Int32) => some (.inl (u7, (s1.2 + (1 : Int32))))) fun j8 => if v6 = a1 then (gR 12 35 M a0).bind fun v10 => (gI 12 18 M a0).bind fun v11 => (rdI M v10 (((12 : Int32) * v11) + s1.2)).bind fun v12 => j8 (s1.1 ||| ((1 : Int32) <<< (v12 &&& 31))) else j8 s1.1) n ((0 : Int32), (0 : Int32))).bind fun (e1 : Int32) => some e1
set_option maxRecDepth 100000 in
set_option maxHeartbeats 4000000 in
theorem C_X12_knowFirst {n : Nat} {M : AM} {a0 : Nat} {a1 : Int32} {o : Int32} (h : F_X12_knowFirst n M a0 a1 = some o) : Cn yX12_knowFirst cX12_knowFirst 4 (some .int) 1 [.ref a0, .int a1] M (some (.int o)) M := by
  unfold F_X12_knowFirst at h
  refine Cn.of rfl (Nat.le_of_ble_eq_true rfl) ?_
  show G yX12_knowFirst cX12_knowFirst 4 (some .int) 1 0 [(0, .ref a0), (1, .int a1)] [] M (some (.int o)) M
  refine G.iconst (0 : Int32) dX12_knowFirst_0 ki_0 ?_
  refine G.istore_n (lv' := [(2, .int (0 : Int32)), (0, .ref a0), (1, .int a1)]) dX12_knowFirst_1 rfl (Nat.le_of_ble_eq_true rfl) rfl ?_
  refine G.iconst (0 : Int32) dX12_knowFirst_2 ki_0 ?_
  refine G.istore_n (lv' := [(3, .int (0 : Int32)), (2, .int (0 : Int32)), (0, .ref a0), (1, .int a1)]) dX12_knowFirst_3 rfl (Nat.le_of_ble_eq_true rfl) rfl ?_
  refine G.sub (lv' := [(0, .ref a0), (1, .int a1), (2, .int (0 : Int32)), (3, .int (0 : Int32))]) [2, 3, 1, 0] rfl ?_
  refine loopE (fun (s1 : Int32 × Int32) => G yX12_knowFirst cX12_knowFirst 4 (some .int) 1 4 [(0, .ref a0), (1, .int a1), (2, .int s1.1), (3, .int s1.2)] [] M (some (.int o)) M) (fun (e1 : Int32) => G yX12_knowFirst cX12_knowFirst 4 (some .int) 1 56 [(2, .int e1)] [] M (some (.int o)) M) h ?_ ?_
  · intro e1 h
    show G yX12_knowFirst cX12_knowFirst 4 (some .int) 1 56 [(2, .int e1)] [] M (some (.int o)) M
    refine G.iload_n dX12_knowFirst_56 rfl rfl ?_
    exact G.iret dX12_knowFirst_57 rfl (rfl) h
  · intro s1 x1 h K1
    show G yX12_knowFirst cX12_knowFirst 4 (some .int) 1 4 [(0, .ref a0), (1, .int a1), (2, .int s1.1), (3, .int s1.2)] [] M (some (.int o)) M
    refine G.iload_n dX12_knowFirst_4 rfl rfl ?_
    refine G.aload_n dX12_knowFirst_5 rfl rfl ?_
    refine G.iconst (5 : Int32) dX12_knowFirst_6 ki_5 ?_
    refine G.callVi (ci := 12) [.int (5 : Int32)] [.int s1.2] dX12_knowFirst_7 lkX12_383 okX12_has rfl (fun v hv => C_X12_has hv) (Nat.le_of_ble_eq_true rfl) rfl rfl (Nat.le_of_ble_eq_true rfl) h (fun v2 h => ?_)
    refine G.icmp_ge 56 dX12_knowFirst_10 (by decide) h (fun c3 h => ?_) (fun c3 h => ?_)
    · refine G.sub (lv' := [(2, .int s1.1)]) [2] rfl ?_
      have h := leafR' h K1
      exact h
    · refine G.aload_n dX12_knowFirst_13 rfl rfl ?_
      refine G.getR dX12_knowFirst_14 fkX12_85 fr12_36 h (fun v4 h => ?_)
      refine G.bipush (12 : Int32) dX12_knowFirst_17 kb_12 ?_
      refine G.aload_n dX12_knowFirst_19 rfl rfl ?_
      refine G.getI dX12_knowFirst_20 fkX12_290 fr12_18 h (fun v5 h => ?_)
      refine G.imul dX12_knowFirst_23 ?_
      refine G.iload_n dX12_knowFirst_24 rfl rfl ?_
      refine G.iadd dX12_knowFirst_25 ?_
      refine G.iald dX12_knowFirst_26 h (fun v6 h => ?_)
      refine G.iload_n dX12_knowFirst_27 rfl rfl ?_
      refine jn_elim (fun j8 => ∀ (u7 : Int32), j8 u7 = some x1 → G yX12_knowFirst cX12_knowFirst 4 (some .int) 1 50 [(0, .ref a0), (1, .int a1), (2, .int u7), (3, .int s1.2)] [] M (some (.int o)) M) h ?_ ?_
      · intro u7 h
        refine G.iinc s1.2 (w := (s1.2 + (1 : Int32))) (lv' := [(3, .int (s1.2 + (1 : Int32))), (0, .ref a0), (1, .int a1), (2, .int u7)]) dX12_knowFirst_50 rfl rfl (Nat.le_of_ble_eq_true rfl) rfl ?_
        refine G.goto 4 dX12_knowFirst_53 (by decide) ?_
        refine G.sub (lv' := [(0, .ref a0), (1, .int a1), (2, .int u7), (3, .int (s1.2 + (1 : Int32)))]) [1, 2, 3, 0] rfl ?_
        have h := leafL' h K1
        exact h
      · intro j8 Jj8 h
        refine G.icmp_ne 50 dX12_knowFirst_28 (by decide) h (fun c9 h => ?_) (fun c9 h => ?_)
        · refine G.iload_n dX12_knowFirst_31 rfl rfl ?_
          refine G.iconst (1 : Int32) dX12_knowFirst_32 ki_1 ?_
          refine G.aload_n dX12_knowFirst_33 rfl rfl ?_
          refine G.getR dX12_knowFirst_34 fkX12_82 fr12_35 h (fun v10 h => ?_)
          refine G.bipush (12 : Int32) dX12_knowFirst_37 kb_12 ?_
          refine G.aload_n dX12_knowFirst_39 rfl rfl ?_
          refine G.getI dX12_knowFirst_40 fkX12_290 fr12_18 h (fun v11 h => ?_)
          refine G.imul dX12_knowFirst_43 ?_
          refine G.iload_n dX12_knowFirst_44 rfl rfl ?_
          refine G.iadd dX12_knowFirst_45 ?_
          refine G.iald dX12_knowFirst_46 h (fun v12 h => ?_)
          refine G.ishl dX12_knowFirst_47 ?_
          refine G.ior dX12_knowFirst_48 ?_
          refine G.istore_n (lv' := [(2, .int (s1.1 ||| ((1 : Int32) <<< (v12 &&& 31)))), (0, .ref a0), (1, .int a1), (3, .int s1.2)]) dX12_knowFirst_49 rfl (Nat.le_of_ble_eq_true rfl) rfl ?_
          refine G.sub (lv' := [(0, .ref a0), (1, .int a1), (2, .int (s1.1 ||| ((1 : Int32) <<< (v12 &&& 31)))), (3, .int s1.2)]) [1, 2, 0, 3] rfl ?_
          exact Jj8 _ h
        · refine G.sub (lv' := [(0, .ref a0), (1, .int a1), (2, .int s1.1), (3, .int s1.2)]) [0, 1, 2, 3] rfl ?_
          exact Jj8 _ h
-- OnlyUpwardModel.can(I)I
set_option maxRecDepth 100000 in
set_option maxHeartbeats 4000000 in
def F_X12_can (n : Nat) (M : AM) (a0 : Nat) (a1 : Int32) : Option (Int32 × AM) :=
  (F_X12_in n M a1 (0 : Int32) (1 : Int32)).bind fun v1 => if v1 = 0 then some ((-1 : Int32), M) else (iter (fun (s3 : Int32 × Int32 × Int32 × AM) => (rcv 12 s3.2.2.2 a0 (F_X12_has n s3.2.2.2 a0 (6 : Int32))).bind fun v4 => if v4 ≤ s3.2.2.1 then some (.inr (s3.1, s3.2.1, s3.2.2.2)) else (gI 12 18 s3.2.2.2 a0).bind fun v6 => (gR 12 38 s3.2.2.2 a0).bind fun v7 => (rdI s3.2.2.2 v7 (((12 : Int32) * v6) + s3.2.2.1)).bind fun v8 => (gR 12 38 s3.2.2.2 a0).bind fun v9 => (rdI s3.2.2.2 v9 (((12 : Int32) * v6) + s3.2.2.1)).bind fun v10 => (rcv 12 s3.2.2.2 a0 (F_X12_knowFirst n s3.2.2.2 a0 v10)).bind fun v11 => (rcv 12 s3.2.2.2 a0 (F_X12_spreads n s3.2.2.2 a0 v8 v11 (0 : Int32) (0 : Int32) (0 : Int32))).bind fun M13 => (gR 12 37 M13 a0).bind fun v14 => (rdI M13 v14 (((12 : Int32) * v6) + s3.2.2.1)).bind fun v15 => (rcv 12 M13 a0 (F_X12_soonOf n M13 a0 v15 (0 : Int32))).bind fun v16 => jn (fun (u17 : Int32) (u18 : Int32) => some (.inl (u17, u18, (s3.2.2.1 + (1 : Int32)), M13))) fun j19 => jn ((rcv 12 M13 a0 (F_X12_worthOfMust n M13 a0 s3.2.2.1)).bind fun v20 => j19 s3.1 (s3.2.1 + v20)) fun j21 => if v16 < 0 then j21 else (gR 12 39 M13 a0).bind fun v23 => (rdI M13 v23 (((12 : Int32) * v6) + s3.2.2.1)).bind fun v24 => if v24 < v16 then j21 else j19 (s3.1 + (1 : Int32)) s3.2.1) n ((0 : Int32), (0 : Int32), (0 : Int32), M)).bind fun (e3 : Int32 × Int32 × AM) => if a1 = 0 then some (e3.1, e3.2.2) else some (e3.2.1, e3.2.2)
set_option maxRecDepth 100000 in
set_option maxHeartbeats 4000000 in
theorem C_X12_can {n : Nat} {M : AM} {a0 : Nat} {a1 : Int32} {o : (Int32 × AM)} (h : F_X12_can n M a0 a1 = some o) : Cn yX12_can cX12_can 7 (some .int) 6 [.ref a0, .int a1] M (some (.int o.1)) o.2 := by
  unfold F_X12_can at h
  refine Cn.of rfl (Nat.le_of_ble_eq_true rfl) ?_
  show G yX12_can cX12_can 7 (some .int) 6 0 [(0, .ref a0), (1, .int a1)] [] M (some (.int o.1)) o.2
  refine G.iload_n dX12_can_0 rfl rfl ?_
  refine G.iconst (0 : Int32) dX12_can_1 ki_0 ?_
  refine G.iconst (1 : Int32) dX12_can_2 ki_1 ?_
  refine G.callSi [.int a1, .int (0 : Int32), .int (1 : Int32)] [] dX12_can_3 lkX12_386 okX12_in (fun v hv => C_X12_in hv) (Nat.le_of_ble_eq_true rfl) rfl rfl (Nat.le_of_ble_eq_true rfl) h (fun v1 h => ?_)
  refine G.if_ne 11 dX12_can_6 (by decide) h (fun c2 h => ?_) (fun c2 h => ?_)
  · refine G.iconst (-1 : Int32) dX12_can_9 ki_m1 ?_
    exact G.iretW dX12_can_10 rfl (rfl) h
  · refine G.iconst (0 : Int32) dX12_can_11 ki_0 ?_
    refine G.istore_n (lv' := [(2, .int (0 : Int32)), (0, .ref a0), (1, .int a1)]) dX12_can_12 rfl (Nat.le_of_ble_eq_true rfl) rfl ?_
    refine G.iconst (0 : Int32) dX12_can_13 ki_0 ?_
    refine G.istore_n (lv' := [(3, .int (0 : Int32)), (2, .int (0 : Int32)), (0, .ref a0), (1, .int a1)]) dX12_can_14 rfl (Nat.le_of_ble_eq_true rfl) rfl ?_
    refine G.iconst (0 : Int32) dX12_can_15 ki_0 ?_
    refine G.istore (lv' := [(4, .int (0 : Int32)), (3, .int (0 : Int32)), (2, .int (0 : Int32)), (0, .ref a0), (1, .int a1)]) dX12_can_16 (Nat.le_of_ble_eq_true rfl) rfl ?_
    refine G.sub (lv' := [(0, .ref a0), (1, .int a1), (2, .int (0 : Int32)), (3, .int (0 : Int32)), (4, .int (0 : Int32))]) [3, 4, 2, 1, 0] rfl ?_
    refine loopE (fun (s3 : Int32 × Int32 × Int32 × AM) => G yX12_can cX12_can 7 (some .int) 6 18 [(0, .ref a0), (1, .int a1), (2, .int s3.1), (3, .int s3.2.1), (4, .int s3.2.2.1)] [] s3.2.2.2 (some (.int o.1)) o.2) (fun (e3 : Int32 × Int32 × AM) => G yX12_can cX12_can 7 (some .int) 6 118 [(1, .int a1), (2, .int e3.1), (3, .int e3.2.1)] [] e3.2.2 (some (.int o.1)) o.2) h ?_ ?_
    · intro e3 h
      show G yX12_can cX12_can 7 (some .int) 6 118 [(1, .int a1), (2, .int e3.1), (3, .int e3.2.1)] [] e3.2.2 (some (.int o.1)) o.2
      refine G.iload_n dX12_can_118 rfl rfl ?_
      refine G.if_ne 126 dX12_can_119 (by decide) h (fun c26 h => ?_) (fun c26 h => ?_)
      · refine G.iload_n dX12_can_122 rfl rfl ?_
        refine G.goto 127 dX12_can_123 (by decide) ?_
        exact G.iretW dX12_can_127 rfl (rfl) h
      · refine G.iload_n dX12_can_126 rfl rfl ?_
        exact G.iretW dX12_can_127 rfl (rfl) h
    · intro s3 x3 h K3
      show G yX12_can cX12_can 7 (some .int) 6 18 [(0, .ref a0), (1, .int a1), (2, .int s3.1), (3, .int s3.2.1), (4, .int s3.2.2.1)] [] s3.2.2.2 (some (.int o.1)) o.2
      refine G.iload dX12_can_18 rfl ?_
      refine G.aload_n dX12_can_20 rfl rfl ?_
      refine G.bipush (6 : Int32) dX12_can_21 kb_6 ?_
      refine G.callVi (ci := 12) [.int (6 : Int32)] [.int s3.2.2.1] dX12_can_23 lkX12_383 okX12_has rfl (fun v hv => C_X12_has hv) (Nat.le_of_ble_eq_true rfl) rfl rfl (Nat.le_of_ble_eq_true rfl) h (fun v4 h => ?_)
      refine G.icmp_ge 118 dX12_can_26 (by decide) h (fun c5 h => ?_) (fun c5 h => ?_)
      · refine G.sub (lv' := [(1, .int a1), (2, .int s3.1), (3, .int s3.2.1)]) [1, 2, 3] rfl ?_
        have h := leafR' h K3
        exact h
      · refine G.bipush (12 : Int32) dX12_can_29 kb_12 ?_
        refine G.aload_n dX12_can_31 rfl rfl ?_
        refine G.getI dX12_can_32 fkX12_290 fr12_18 h (fun v6 h => ?_)
        refine G.imul dX12_can_35 ?_
        refine G.iload dX12_can_36 rfl ?_
        refine G.iadd dX12_can_38 ?_
        refine G.istore (lv' := [(5, .int (((12 : Int32) * v6) + s3.2.2.1)), (0, .ref a0), (1, .int a1), (2, .int s3.1), (3, .int s3.2.1), (4, .int s3.2.2.1)]) dX12_can_39 (Nat.le_of_ble_eq_true rfl) rfl ?_
        refine G.aload_n dX12_can_41 rfl rfl ?_
        refine G.aload_n dX12_can_42 rfl rfl ?_
        refine G.getR dX12_can_43 fkX12_91 fr12_38 h (fun v7 h => ?_)
        refine G.iload dX12_can_46 rfl ?_
        refine G.iald dX12_can_48 h (fun v8 h => ?_)
        refine G.aload_n dX12_can_49 rfl rfl ?_
        refine G.aload_n dX12_can_50 rfl rfl ?_
        refine G.getR dX12_can_51 fkX12_91 fr12_38 h (fun v9 h => ?_)
        refine G.iload dX12_can_54 rfl ?_
        refine G.iald dX12_can_56 h (fun v10 h => ?_)
        refine G.callVi (ci := 12) [.int v10] [.int v8, .ref a0] dX12_can_57 lkX12_538 okX12_knowFirst rfl (fun v hv => C_X12_knowFirst hv) (Nat.le_of_ble_eq_true rfl) rfl rfl (Nat.le_of_ble_eq_true rfl) h (fun v11 h => ?_)
        refine G.iconst (0 : Int32) dX12_can_60 ki_0 ?_
        refine G.iconst (0 : Int32) dX12_can_61 ki_0 ?_
        refine G.iconst (0 : Int32) dX12_can_62 ki_0 ?_
        refine G.callVv (ci := 12) [.int v8, .int v11, .int (0 : Int32), .int (0 : Int32), .int (0 : Int32)] [] dX12_can_63 lkX12_491 okX12_spreads rfl (fun v hv => C_X12_spreads hv) (Nat.le_of_ble_eq_true rfl) rfl rfl (Nat.le_of_ble_eq_true rfl) h (fun M13 h => ?_)
        refine G.aload_n dX12_can_66 rfl rfl ?_
        refine G.aload_n dX12_can_67 rfl rfl ?_
        refine G.getR dX12_can_68 fkX12_88 fr12_37 h (fun v14 h => ?_)
        refine G.iload dX12_can_71 rfl ?_
        refine G.iald dX12_can_73 h (fun v15 h => ?_)
        refine G.iconst (0 : Int32) dX12_can_74 ki_0 ?_
        refine G.callVi (ci := 12) [.int v15, .int (0 : Int32)] [] dX12_can_75 lkX12_495 okX12_soonOf rfl (fun v hv => C_X12_soonOf hv) (Nat.le_of_ble_eq_true rfl) rfl rfl (Nat.le_of_ble_eq_true rfl) h (fun v16 h => ?_)
        refine G.istore (lv' := [(6, .int v16), (5, .int (((12 : Int32) * v6) + s3.2.2.1)), (0, .ref a0), (1, .int a1), (2, .int s3.1), (3, .int s3.2.1), (4, .int s3.2.2.1)]) dX12_can_78 (Nat.le_of_ble_eq_true rfl) rfl ?_
        refine G.iload dX12_can_80 rfl ?_
        refine jn_elim (fun j19 => ∀ (u17 : Int32) (u18 : Int32), j19 u17 u18 = some x3 → G yX12_can cX12_can 7 (some .int) 6 112 [(0, .ref a0), (1, .int a1), (2, .int u17), (3, .int u18), (4, .int s3.2.2.1)] [] M13 (some (.int o.1)) o.2) h ?_ ?_
        · intro u17 u18 h
          refine G.iinc s3.2.2.1 (w := (s3.2.2.1 + (1 : Int32))) (lv' := [(4, .int (s3.2.2.1 + (1 : Int32))), (0, .ref a0), (1, .int a1), (2, .int u17), (3, .int u18)]) dX12_can_112 rfl rfl (Nat.le_of_ble_eq_true rfl) rfl ?_
          refine G.goto 18 dX12_can_115 (by decide) ?_
          refine G.sub (lv' := [(0, .ref a0), (1, .int a1), (2, .int u17), (3, .int u18), (4, .int (s3.2.2.1 + (1 : Int32)))]) [1, 2, 3, 4, 0] rfl ?_
          have h := leafL' h K3
          exact h
        · intro j19 Jj19 h
          refine jn_elim (fun j21 => j21 = some x3 → G yX12_can cX12_can 7 (some .int) 6 103 [(0, .ref a0), (1, .int a1), (2, .int s3.1), (3, .int s3.2.1), (4, .int s3.2.2.1)] [] M13 (some (.int o.1)) o.2) h ?_ ?_
          · intro h
            refine G.iload_n dX12_can_103 rfl rfl ?_
            refine G.aload_n dX12_can_104 rfl rfl ?_
            refine G.iload dX12_can_105 rfl ?_
            refine G.callVi (ci := 12) [.int s3.2.2.1] [.int s3.2.1] dX12_can_107 lkX12_532 okX12_worthOfMust rfl (fun v hv => C_X12_worthOfMust hv) (Nat.le_of_ble_eq_true rfl) rfl rfl (Nat.le_of_ble_eq_true rfl) h (fun v20 h => ?_)
            refine G.iadd dX12_can_110 ?_
            refine G.istore_n (lv' := [(3, .int (s3.2.1 + v20)), (0, .ref a0), (1, .int a1), (2, .int s3.1), (4, .int s3.2.2.1)]) dX12_can_111 rfl (Nat.le_of_ble_eq_true rfl) rfl ?_
            refine G.sub (lv' := [(0, .ref a0), (1, .int a1), (2, .int s3.1), (3, .int (s3.2.1 + v20)), (4, .int s3.2.2.1)]) [1, 2, 3, 0, 4] rfl ?_
            exact Jj19 _ _ h
          · intro j21 Jj21 h
            refine G.if_lt 103 dX12_can_82 (by decide) h (fun c22 h => ?_) (fun c22 h => ?_)
            · refine G.sub (lv' := [(0, .ref a0), (1, .int a1), (2, .int s3.1), (3, .int s3.2.1), (4, .int s3.2.2.1)]) [2, 3, 4, 5, 6] rfl ?_
              exact Jj21  h
            · refine G.iload dX12_can_85 rfl ?_
              refine G.aload_n dX12_can_87 rfl rfl ?_
              refine G.getR dX12_can_88 fkX12_94 fr12_39 h (fun v23 h => ?_)
              refine G.iload dX12_can_91 rfl ?_
              refine G.iald dX12_can_93 h (fun v24 h => ?_)
              refine G.icmp_gt 103 dX12_can_94 (by decide) h (fun c25 h => ?_) (fun c25 h => ?_)
              · refine G.sub (lv' := [(0, .ref a0), (1, .int a1), (2, .int s3.1), (3, .int s3.2.1), (4, .int s3.2.2.1)]) [2, 3, 4, 5, 6] rfl ?_
                exact Jj21  h
              · refine G.iinc s3.1 (w := (s3.1 + (1 : Int32))) (lv' := [(2, .int (s3.1 + (1 : Int32))), (6, .int v16), (5, .int (((12 : Int32) * v6) + s3.2.2.1)), (0, .ref a0), (1, .int a1), (3, .int s3.2.1), (4, .int s3.2.2.1)]) dX12_can_97 rfl rfl (Nat.le_of_ble_eq_true rfl) rfl ?_
                refine G.goto 112 dX12_can_100 (by decide) ?_
                refine G.sub (lv' := [(0, .ref a0), (1, .int a1), (2, .int (s3.1 + (1 : Int32))), (3, .int s3.2.1), (4, .int s3.2.2.1)]) [3, 4, 0, 5, 6] rfl ?_
                exact Jj19 _ _ h
-- OnlyUpwardModel.task(II)I
set_option maxRecDepth 100000 in
set_option maxHeartbeats 4000000 in
def F_X12_task (n : Nat) (M : AM) (a0 : Nat) (a1 : Int32) (a2 : Int32) : Option (Int32 × AM) :=
  (gR 12 25 M a0).bind fun v1 => (gI 12 18 M a0).bind fun v2 => (rdI M v1 v2).bind fun v3 => (F_X12_in n M a1 (0 : Int32) (v3 - (1 : Int32))).bind fun v4 => if v4 = 0 then some ((-1 : Int32), M) else (rcv 12 M a0 (F_X12_isPerson n M a0 a2)).bind fun v6 => if v6 = 0 then some ((-1 : Int32), M) else (iter (fun (s8 : Int32 × Int32 × AM) => (rcv 12 s8.2.2 a0 (F_X12_has n s8.2.2 a0 (2 : Int32))).bind fun v9 => if v9 ≤ s8.2.1 then some (.inr (.inl (s8.1, s8.2.2))) else (gR 12 42 s8.2.2 a0).bind fun v11 => (gI 12 18 s8.2.2 a0).bind fun v12 => (rdI s8.2.2 v11 (((4 : Int32) * v12) + a1)).bind fun v13 => jn (fun (u14 : Int32) (M15 : AM) => some (.inl (u14, (s8.2.1 + (1 : Int32)), M15))) fun j16 => if ((v13 >>> (s8.2.1 &&& 31)) &&& (1 : Int32)) = 0 then j16 s8.1 s8.2.2 else (rcv 12 s8.2.2 a0 (F_X12_knowFirst n s8.2.2 a0 s8.2.1)).bind fun v18 => (rcv 12 s8.2.2 a0 (F_X12_spreads n s8.2.2 a0 s8.2.1 v18 (0 : Int32) (0 : Int32) (0 : Int32))).bind fun M20 => (rcv 12 M20 a0 (F_X12_soonOf n M20 a0 a2 (0 : Int32))).bind fun v21 => if 0 ≤ v21 then if v21 ≤ s8.1 then j16 s8.1 M20 else j16 v21 M20 else some (.inr (.inr ((-2 : Int32), M20)))) n ((0 : Int32), (0 : Int32), M)).bind fun (z8 : (Int32 × AM) ⊕ (Int32 × AM)) => Sum.elim (fun (e8 : Int32 × AM) => some (e8.1, e8.2)) (fun (v : (Int32 × AM)) => some v) z8
set_option maxRecDepth 100000 in
set_option maxHeartbeats 4000000 in
theorem C_X12_task {n : Nat} {M : AM} {a0 : Nat} {a1 : Int32} {a2 : Int32} {o : (Int32 × AM)} (h : F_X12_task n M a0 a1 a2 = some o) : Cn yX12_task cX12_task 6 (some .int) 6 [.ref a0, .int a1, .int a2] M (some (.int o.1)) o.2 := by
  unfold F_X12_task at h
  refine Cn.of rfl (Nat.le_of_ble_eq_true rfl) ?_
  show G yX12_task cX12_task 6 (some .int) 6 0 [(0, .ref a0), (1, .int a1), (2, .int a2)] [] M (some (.int o.1)) o.2
  refine G.iload_n dX12_task_0 rfl rfl ?_
  refine G.iconst (0 : Int32) dX12_task_1 ki_0 ?_
  refine G.aload_n dX12_task_2 rfl rfl ?_
  refine G.getR dX12_task_3 fkX12_52 fr12_25 h (fun v1 h => ?_)
  refine G.aload_n dX12_task_6 rfl rfl ?_
  refine G.getI dX12_task_7 fkX12_290 fr12_18 h (fun v2 h => ?_)
  refine G.iald dX12_task_10 h (fun v3 h => ?_)
  refine G.iconst (1 : Int32) dX12_task_11 ki_1 ?_
  refine G.isub dX12_task_12 ?_
  refine G.callSi [.int a1, .int (0 : Int32), .int (v3 - (1 : Int32))] [] dX12_task_13 lkX12_386 okX12_in (fun v hv => C_X12_in hv) (Nat.le_of_ble_eq_true rfl) rfl rfl (Nat.le_of_ble_eq_true rfl) h (fun v4 h => ?_)
  refine G.if_eq 27 dX12_task_16 (by decide) h (fun c5 h => ?_) (fun c5 h => ?_)
  · refine G.iconst (-1 : Int32) dX12_task_27 ki_m1 ?_
    exact G.iretW dX12_task_28 rfl (rfl) h
  · refine G.aload_n dX12_task_19 rfl rfl ?_
    refine G.iload_n dX12_task_20 rfl rfl ?_
    refine G.callVi (ci := 12) [.int a2] [] dX12_task_21 lkX12_415 okX12_isPerson rfl (fun v hv => C_X12_isPerson hv) (Nat.le_of_ble_eq_true rfl) rfl rfl (Nat.le_of_ble_eq_true rfl) h (fun v6 h => ?_)
    refine G.if_ne 29 dX12_task_24 (by decide) h (fun c7 h => ?_) (fun c7 h => ?_)
    · refine G.iconst (-1 : Int32) dX12_task_27 ki_m1 ?_
      exact G.iretW dX12_task_28 rfl (rfl) h
    · refine G.iconst (0 : Int32) dX12_task_29 ki_0 ?_
      refine G.istore_n (lv' := [(3, .int (0 : Int32)), (0, .ref a0), (1, .int a1), (2, .int a2)]) dX12_task_30 rfl (Nat.le_of_ble_eq_true rfl) rfl ?_
      refine G.iconst (0 : Int32) dX12_task_31 ki_0 ?_
      refine G.istore (lv' := [(4, .int (0 : Int32)), (3, .int (0 : Int32)), (0, .ref a0), (1, .int a1), (2, .int a2)]) dX12_task_32 (Nat.le_of_ble_eq_true rfl) rfl ?_
      refine G.sub (lv' := [(0, .ref a0), (1, .int a1), (2, .int a2), (3, .int (0 : Int32)), (4, .int (0 : Int32))]) [2, 3, 4, 1, 0] rfl ?_
      refine loopE (fun (s8 : Int32 × Int32 × AM) => G yX12_task cX12_task 6 (some .int) 6 34 [(0, .ref a0), (1, .int a1), (2, .int a2), (3, .int s8.1), (4, .int s8.2.1)] [] s8.2.2 (some (.int o.1)) o.2) (fun (z8 : (Int32 × AM) ⊕ (Int32 × AM)) => Sum.elim (fun (e8 : Int32 × AM) => G yX12_task cX12_task 6 (some .int) 6 114 [(3, .int e8.1)] [] e8.2 (some (.int o.1)) o.2) (fun (v : (Int32 × AM)) => some v = some o) z8) h ?_ ?_
      · intro z8 h
        rcases z8 with e8 | v
        · have h := sum_inl h
          show G yX12_task cX12_task 6 (some .int) 6 114 [(3, .int e8.1)] [] e8.2 (some (.int o.1)) o.2
          refine G.iload_n dX12_task_114 rfl rfl ?_
          exact G.iretW dX12_task_115 rfl (rfl) h
        · have h := sum_inr h
          exact h
      · intro s8 x8 h K8
        show G yX12_task cX12_task 6 (some .int) 6 34 [(0, .ref a0), (1, .int a1), (2, .int a2), (3, .int s8.1), (4, .int s8.2.1)] [] s8.2.2 (some (.int o.1)) o.2
        refine G.iload dX12_task_34 rfl ?_
        refine G.aload_n dX12_task_36 rfl rfl ?_
        refine G.iconst (2 : Int32) dX12_task_37 ki_2 ?_
        refine G.callVi (ci := 12) [.int (2 : Int32)] [.int s8.2.1] dX12_task_38 lkX12_383 okX12_has rfl (fun v hv => C_X12_has hv) (Nat.le_of_ble_eq_true rfl) rfl rfl (Nat.le_of_ble_eq_true rfl) h (fun v9 h => ?_)
        refine G.icmp_ge 114 dX12_task_41 (by decide) h (fun c10 h => ?_) (fun c10 h => ?_)
        · refine G.sub (lv' := [(3, .int s8.1)]) [3] rfl ?_
          have h := leafR' h K8
          exact h
        · refine G.aload_n dX12_task_44 rfl rfl ?_
          refine G.getR dX12_task_45 fkX12_103 fr12_42 h (fun v11 h => ?_)
          refine G.iconst (4 : Int32) dX12_task_48 ki_4 ?_
          refine G.aload_n dX12_task_49 rfl rfl ?_
          refine G.getI dX12_task_50 fkX12_290 fr12_18 h (fun v12 h => ?_)
          refine G.imul dX12_task_53 ?_
          refine G.iload_n dX12_task_54 rfl rfl ?_
          refine G.iadd dX12_task_55 ?_
          refine G.iald dX12_task_56 h (fun v13 h => ?_)
          refine G.iload dX12_task_57 rfl ?_
          refine G.ishr dX12_task_59 ?_
          refine G.iconst (1 : Int32) dX12_task_60 ki_1 ?_
          refine G.iand dX12_task_61 ?_
          refine jn_elim (fun j16 => ∀ (u14 : Int32) (M15 : AM), j16 u14 M15 = some x8 → G yX12_task cX12_task 6 (some .int) 6 108 [(0, .ref a0), (1, .int a1), (2, .int a2), (3, .int u14), (4, .int s8.2.1)] [] M15 (some (.int o.1)) o.2) h ?_ ?_
          · intro u14 M15 h
            refine G.iinc s8.2.1 (w := (s8.2.1 + (1 : Int32))) (lv' := [(4, .int (s8.2.1 + (1 : Int32))), (0, .ref a0), (1, .int a1), (2, .int a2), (3, .int u14)]) dX12_task_108 rfl rfl (Nat.le_of_ble_eq_true rfl) rfl ?_
            refine G.goto 34 dX12_task_111 (by decide) ?_
            refine G.sub (lv' := [(0, .ref a0), (1, .int a1), (2, .int a2), (3, .int u14), (4, .int (s8.2.1 + (1 : Int32)))]) [1, 2, 3, 4, 0] rfl ?_
            have h := leafL' h K8
            exact h
          · intro j16 Jj16 h
            refine G.if_ne 68 dX12_task_62 (by decide) h (fun c17 h => ?_) (fun c17 h => ?_)
            · refine G.goto 108 dX12_task_65 (by decide) ?_
              refine G.sub (lv' := [(0, .ref a0), (1, .int a1), (2, .int a2), (3, .int s8.1), (4, .int s8.2.1)]) [0, 1, 2, 3, 4] rfl ?_
              exact Jj16 _ _ h
            · refine G.aload_n dX12_task_68 rfl rfl ?_
              refine G.iload dX12_task_69 rfl ?_
              refine G.aload_n dX12_task_71 rfl rfl ?_
              refine G.iload dX12_task_72 rfl ?_
              refine G.callVi (ci := 12) [.int s8.2.1] [.int s8.2.1, .ref a0] dX12_task_74 lkX12_538 okX12_knowFirst rfl (fun v hv => C_X12_knowFirst hv) (Nat.le_of_ble_eq_true rfl) rfl rfl (Nat.le_of_ble_eq_true rfl) h (fun v18 h => ?_)
              refine G.iconst (0 : Int32) dX12_task_77 ki_0 ?_
              refine G.iconst (0 : Int32) dX12_task_78 ki_0 ?_
              refine G.iconst (0 : Int32) dX12_task_79 ki_0 ?_
              refine G.callVv (ci := 12) [.int s8.2.1, .int v18, .int (0 : Int32), .int (0 : Int32), .int (0 : Int32)] [] dX12_task_80 lkX12_491 okX12_spreads rfl (fun v hv => C_X12_spreads hv) (Nat.le_of_ble_eq_true rfl) rfl rfl (Nat.le_of_ble_eq_true rfl) h (fun M20 h => ?_)
              refine G.aload_n dX12_task_83 rfl rfl ?_
              refine G.iload_n dX12_task_84 rfl rfl ?_
              refine G.iconst (0 : Int32) dX12_task_85 ki_0 ?_
              refine G.callVi (ci := 12) [.int a2, .int (0 : Int32)] [] dX12_task_86 lkX12_495 okX12_soonOf rfl (fun v hv => C_X12_soonOf hv) (Nat.le_of_ble_eq_true rfl) rfl rfl (Nat.le_of_ble_eq_true rfl) h (fun v21 h => ?_)
              refine G.istore (lv' := [(5, .int v21), (0, .ref a0), (1, .int a1), (2, .int a2), (3, .int s8.1), (4, .int s8.2.1)]) dX12_task_89 (Nat.le_of_ble_eq_true rfl) rfl ?_
              refine G.iload dX12_task_91 rfl ?_
              refine G.if_ge 99 dX12_task_93 (by decide) h (fun c22 h => ?_) (fun c22 h => ?_)
              · refine G.iload dX12_task_99 rfl ?_
                refine G.iload_n dX12_task_101 rfl rfl ?_
                refine G.icmp_le 108 dX12_task_102 (by decide) h (fun c23 h => ?_) (fun c23 h => ?_)
                · refine G.sub (lv' := [(0, .ref a0), (1, .int a1), (2, .int a2), (3, .int s8.1), (4, .int s8.2.1)]) [1, 2, 3, 4, 5] rfl ?_
                  exact Jj16 _ _ h
                · refine G.iload dX12_task_105 rfl ?_
                  refine G.istore_n (lv' := [(3, .int v21), (5, .int v21), (0, .ref a0), (1, .int a1), (2, .int a2), (4, .int s8.2.1)]) dX12_task_107 rfl (Nat.le_of_ble_eq_true rfl) rfl ?_
                  refine G.sub (lv' := [(0, .ref a0), (1, .int a1), (2, .int a2), (3, .int v21), (4, .int s8.2.1)]) [2, 3, 4, 0, 5] rfl ?_
                  exact Jj16 _ _ h
              · refine G.bipush (-2 : Int32) dX12_task_96 kb_m2 ?_
                have h := leafR' h K8
                exact G.iretW dX12_task_98 rfl (rfl) h
-- OnlyUpwardModel.isAhead(IIIZ)Z
set_option maxRecDepth 100000 in
set_option maxHeartbeats 4000000 in
def F_X12_isAhead (n : Nat) (M : AM) (a0 : Nat) (a1 : Int32) (a2 : Int32) (a3 : Int32) (a4 : Int32) : Option Int32 :=
  jn (fun (u1 : Int32) => jn (fun (u2 : Int32) => jn (some (1 : Int32)) fun j3 => if u2 < u1 then j3 else if u1 = u2 then (rcv 12 M a0 (F_X12_ageAt n M a0 a1 a3)).bind fun v6 => (rcv 12 M a0 (F_X12_ageAt n M a0 a2 a3)).bind fun v7 => if v6 ≤ v7 then some (0 : Int32) else j3 else some (0 : Int32)) fun j9 => if a4 = 0 then j9 (0 : Int32) else (gR 12 68 M a0).bind fun v11 => (rdI M v11 (((10 : Int32) * a3) + a2)).bind fun v12 => (F_X12_bits n M v12).bind fun v13 => j9 v13) fun j14 => if a4 = 0 then j14 (0 : Int32) else (gR 12 68 M a0).bind fun v16 => (rdI M v16 (((10 : Int32) * a3) + a1)).bind fun v17 => (F_X12_bits n M v17).bind fun v18 => j14 v18
set_option maxRecDepth 100000 in
set_option maxHeartbeats 4000000 in
theorem C_X12_isAhead {n : Nat} {M : AM} {a0 : Nat} {a1 : Int32} {a2 : Int32} {a3 : Int32} {a4 : Int32} {o : Int32} (h : F_X12_isAhead n M a0 a1 a2 a3 a4 = some o) : Cn yX12_isAhead cX12_isAhead 7 (some .boolean) 1 [.ref a0, .int a1, .int a2, .int a3, .int a4] M (some (.int o)) M := by
  unfold F_X12_isAhead at h
  refine Cn.of rfl (Nat.le_of_ble_eq_true rfl) ?_
  show G yX12_isAhead cX12_isAhead 7 (some .boolean) 1 0 [(0, .ref a0), (1, .int a1), (2, .int a2), (3, .int a3), (4, .int a4)] [] M (some (.int o)) M
  refine G.iload dX12_isAhead_0 rfl ?_
  refine jn_elim (fun j14 => ∀ (u1 : Int32), j14 u1 = some o → G yX12_isAhead cX12_isAhead 7 (some .boolean) 1 23 [(0, .ref a0), (1, .int a1), (2, .int a2), (3, .int a3), (4, .int a4)] [.int u1] M (some (.int o)) M) h ?_ ?_
  · intro u1 h
    refine G.istore (lv' := [(5, .int u1), (0, .ref a0), (1, .int a1), (2, .int a2), (3, .int a3), (4, .int a4)]) dX12_isAhead_23 (Nat.le_of_ble_eq_true rfl) rfl ?_
    refine G.iload dX12_isAhead_25 rfl ?_
    refine jn_elim (fun j9 => ∀ (u2 : Int32), j9 u2 = some o → G yX12_isAhead cX12_isAhead 7 (some .boolean) 1 48 [(0, .ref a0), (1, .int a1), (2, .int a2), (3, .int a3), (5, .int u1)] [.int u2] M (some (.int o)) M) h ?_ ?_
    · intro u2 h
      refine G.istore (lv' := [(6, .int u2), (0, .ref a0), (1, .int a1), (2, .int a2), (3, .int a3), (5, .int u1)]) dX12_isAhead_48 (Nat.le_of_ble_eq_true rfl) rfl ?_
      refine G.iload dX12_isAhead_50 rfl ?_
      refine G.iload dX12_isAhead_52 rfl ?_
      refine jn_elim (fun j3 => j3 = some o → G yX12_isAhead cX12_isAhead 7 (some .boolean) 1 79 [] [] M (some (.int o)) M) h ?_ ?_
      · intro h
        refine G.iconst (1 : Int32) dX12_isAhead_79 ki_1 ?_
        refine G.goto 84 dX12_isAhead_80 (by decide) ?_
        exact G.iret dX12_isAhead_84 rfl (by decide) h
      · intro j3 Jj3 h
        refine G.icmp_gt 79 dX12_isAhead_54 (by decide) h (fun c4 h => ?_) (fun c4 h => ?_)
        · refine G.sub (lv' := []) [] rfl ?_
          exact Jj3  h
        · refine G.iload dX12_isAhead_57 rfl ?_
          refine G.iload dX12_isAhead_59 rfl ?_
          refine G.icmp_ne 83 dX12_isAhead_61 (by decide) h (fun c5 h => ?_) (fun c5 h => ?_)
          · refine G.aload_n dX12_isAhead_64 rfl rfl ?_
            refine G.iload_n dX12_isAhead_65 rfl rfl ?_
            refine G.iload_n dX12_isAhead_66 rfl rfl ?_
            refine G.callVi (ci := 12) [.int a1, .int a3] [] dX12_isAhead_67 lkX12_403 okX12_ageAt rfl (fun v hv => C_X12_ageAt hv) (Nat.le_of_ble_eq_true rfl) rfl rfl (Nat.le_of_ble_eq_true rfl) h (fun v6 h => ?_)
            refine G.aload_n dX12_isAhead_70 rfl rfl ?_
            refine G.iload_n dX12_isAhead_71 rfl rfl ?_
            refine G.iload_n dX12_isAhead_72 rfl rfl ?_
            refine G.callVi (ci := 12) [.int a2, .int a3] [.int v6] dX12_isAhead_73 lkX12_403 okX12_ageAt rfl (fun v hv => C_X12_ageAt hv) (Nat.le_of_ble_eq_true rfl) rfl rfl (Nat.le_of_ble_eq_true rfl) h (fun v7 h => ?_)
            refine G.icmp_le 83 dX12_isAhead_76 (by decide) h (fun c8 h => ?_) (fun c8 h => ?_)
            · refine G.iconst (0 : Int32) dX12_isAhead_83 ki_0 ?_
              exact G.iret dX12_isAhead_84 rfl (by decide) h
            · refine G.sub (lv' := []) [] rfl ?_
              exact Jj3  h
          · refine G.iconst (0 : Int32) dX12_isAhead_83 ki_0 ?_
            exact G.iret dX12_isAhead_84 rfl (by decide) h
    · intro j9 Jj9 h
      refine G.if_eq 47 dX12_isAhead_27 (by decide) h (fun c10 h => ?_) (fun c10 h => ?_)
      · refine G.iconst (0 : Int32) dX12_isAhead_47 ki_0 ?_
        refine G.sub (lv' := [(0, .ref a0), (1, .int a1), (2, .int a2), (3, .int a3), (5, .int u1)]) [1, 2, 3, 4, 0] rfl ?_
        exact Jj9 _ h
      · refine G.aload_n dX12_isAhead_30 rfl rfl ?_
        refine G.getR dX12_isAhead_31 fkX12_164 fr12_68 h (fun v11 h => ?_)
        refine G.bipush (10 : Int32) dX12_isAhead_34 kb_10 ?_
        refine G.iload_n dX12_isAhead_36 rfl rfl ?_
        refine G.imul dX12_isAhead_37 ?_
        refine G.iload_n dX12_isAhead_38 rfl rfl ?_
        refine G.iadd dX12_isAhead_39 ?_
        refine G.iald dX12_isAhead_40 h (fun v12 h => ?_)
        refine G.callSi [.int v12] [] dX12_isAhead_41 lkX12_409 okX12_bits (fun v hv => C_X12_bits hv) (Nat.le_of_ble_eq_true rfl) rfl rfl (Nat.le_of_ble_eq_true rfl) h (fun v13 h => ?_)
        refine G.goto 48 dX12_isAhead_44 (by decide) ?_
        refine G.sub (lv' := [(0, .ref a0), (1, .int a1), (2, .int a2), (3, .int a3), (5, .int u1)]) [1, 2, 3, 4, 0] rfl ?_
        exact Jj9 _ h
  · intro j14 Jj14 h
    refine G.if_eq 22 dX12_isAhead_2 (by decide) h (fun c15 h => ?_) (fun c15 h => ?_)
    · refine G.iconst (0 : Int32) dX12_isAhead_22 ki_0 ?_
      refine G.sub (lv' := [(0, .ref a0), (1, .int a1), (2, .int a2), (3, .int a3), (4, .int a4)]) [0, 1, 2, 3, 4] rfl ?_
      exact Jj14 _ h
    · refine G.aload_n dX12_isAhead_5 rfl rfl ?_
      refine G.getR dX12_isAhead_6 fkX12_164 fr12_68 h (fun v16 h => ?_)
      refine G.bipush (10 : Int32) dX12_isAhead_9 kb_10 ?_
      refine G.iload_n dX12_isAhead_11 rfl rfl ?_
      refine G.imul dX12_isAhead_12 ?_
      refine G.iload_n dX12_isAhead_13 rfl rfl ?_
      refine G.iadd dX12_isAhead_14 ?_
      refine G.iald dX12_isAhead_15 h (fun v17 h => ?_)
      refine G.callSi [.int v17] [] dX12_isAhead_16 lkX12_409 okX12_bits (fun v hv => C_X12_bits hv) (Nat.le_of_ble_eq_true rfl) rfl rfl (Nat.le_of_ble_eq_true rfl) h (fun v18 h => ?_)
      refine G.goto 23 dX12_isAhead_19 (by decide) ?_
      refine G.sub (lv' := [(0, .ref a0), (1, .int a1), (2, .int a2), (3, .int a3), (4, .int a4)]) [0, 1, 2, 3, 4] rfl ?_
      exact Jj14 _ h
-- OnlyUpwardModel.ranks(IZ)V
set_option maxRecDepth 100000 in
set_option maxHeartbeats 4000000 in
def F_X12_ranks (n : Nat) (M : AM) (a0 : Nat) (a1 : Int32) (a2 : Int32) : Option AM :=
  (iter (fun (s1 : Int32 × AM) => (rcv 12 s1.2 a0 (F_X12_has n s1.2 a0 (1 : Int32))).bind fun v2 => if v2 ≤ s1.1 then some (.inr s1.2) else (iter (fun (s4 : Int32 × AM) => if s4.1 ≤ 0 then some (.inr (s4.1, s4.2)) else (gR 12 81 s4.2 a0).bind fun v6 => (rdI s4.2 v6 (s4.1 - (1 : Int32))).bind fun v7 => (rcv 12 s4.2 a0 (F_X12_isAhead n s4.2 a0 s1.1 v7 a1 a2)).bind fun v8 => if v8 = 0 then some (.inr (s4.1, s4.2)) else (gR 12 81 s4.2 a0).bind fun v10 => (gR 12 81 s4.2 a0).bind fun v11 => (rdI s4.2 v11 (s4.1 - (1 : Int32))).bind fun v12 => (wrI s4.2 v10 s4.1 v12).bind fun M13 => some (.inl ((s4.1 + (-1 : Int32)), M13))) n (s1.1, s1.2)).bind fun (e4 : Int32 × AM) => (gR 12 81 e4.2 a0).bind fun v14 => (wrI e4.2 v14 e4.1 s1.1).bind fun M15 => some (.inl ((s1.1 + (1 : Int32)), M15))) n ((0 : Int32), M)).bind fun (e1 : AM) => some e1
set_option maxRecDepth 100000 in
set_option maxHeartbeats 4000000 in
theorem C_X12_ranks {n : Nat} {M : AM} {a0 : Nat} {a1 : Int32} {a2 : Int32} {o : AM} (h : F_X12_ranks n M a0 a1 a2 = some o) : Cn yX12_ranks cX12_ranks 5 none 2 [.ref a0, .int a1, .int a2] M none o := by
  unfold F_X12_ranks at h
  refine Cn.of rfl (Nat.le_of_ble_eq_true rfl) ?_
  show G yX12_ranks cX12_ranks 5 none 2 0 [(0, .ref a0), (1, .int a1), (2, .int a2)] [] M none o
  refine G.iconst (0 : Int32) dX12_ranks_0 ki_0 ?_
  refine G.istore_n (lv' := [(3, .int (0 : Int32)), (0, .ref a0), (1, .int a1), (2, .int a2)]) dX12_ranks_1 rfl (Nat.le_of_ble_eq_true rfl) rfl ?_
  refine G.sub (lv' := [(0, .ref a0), (1, .int a1), (2, .int a2), (3, .int (0 : Int32))]) [1, 2, 3, 0] rfl ?_
  refine loopE (fun (s1 : Int32 × AM) => G yX12_ranks cX12_ranks 5 none 2 2 [(0, .ref a0), (1, .int a1), (2, .int a2), (3, .int s1.1)] [] s1.2 none o) (fun (e1 : AM) => G yX12_ranks cX12_ranks 5 none 2 74 [] [] e1 none o) h ?_ ?_
  · intro e1 h
    show G yX12_ranks cX12_ranks 5 none 2 74 [] [] e1 none o
    exact G.vretW dX12_ranks_74 rfl h
  · intro s1 x1 h K1
    show G yX12_ranks cX12_ranks 5 none 2 2 [(0, .ref a0), (1, .int a1), (2, .int a2), (3, .int s1.1)] [] s1.2 none o
    refine G.iload_n dX12_ranks_2 rfl rfl ?_
    refine G.aload_n dX12_ranks_3 rfl rfl ?_
    refine G.iconst (1 : Int32) dX12_ranks_4 ki_1 ?_
    refine G.callVi (ci := 12) [.int (1 : Int32)] [.int s1.1] dX12_ranks_5 lkX12_383 okX12_has rfl (fun v hv => C_X12_has hv) (Nat.le_of_ble_eq_true rfl) rfl rfl (Nat.le_of_ble_eq_true rfl) h (fun v2 h => ?_)
    refine G.icmp_ge 74 dX12_ranks_8 (by decide) h (fun c3 h => ?_) (fun c3 h => ?_)
    · refine G.sub (lv' := []) [] rfl ?_
      have h := leafR' h K1
      exact h
    · refine G.iload_n dX12_ranks_11 rfl rfl ?_
      refine G.istore (lv' := [(4, .int s1.1), (0, .ref a0), (1, .int a1), (2, .int a2), (3, .int s1.1)]) dX12_ranks_12 (Nat.le_of_ble_eq_true rfl) rfl ?_
      refine G.sub (lv' := [(0, .ref a0), (1, .int a1), (2, .int a2), (3, .int s1.1), (4, .int s1.1)]) [1, 2, 3, 4, 0] rfl ?_
      refine loopE (fun (s4 : Int32 × AM) => G yX12_ranks cX12_ranks 5 none 2 14 [(0, .ref a0), (1, .int a1), (2, .int a2), (3, .int s1.1), (4, .int s4.1)] [] s4.2 none o) (fun (e4 : Int32 × AM) => G yX12_ranks cX12_ranks 5 none 2 60 [(0, .ref a0), (1, .int a1), (2, .int a2), (3, .int s1.1), (4, .int e4.1)] [] e4.2 none o) h ?_ ?_
      · intro e4 h
        show G yX12_ranks cX12_ranks 5 none 2 60 [(0, .ref a0), (1, .int a1), (2, .int a2), (3, .int s1.1), (4, .int e4.1)] [] e4.2 none o
        refine G.aload_n dX12_ranks_60 rfl rfl ?_
        refine G.getR dX12_ranks_61 fkX12_197 fr12_81 h (fun v14 h => ?_)
        refine G.iload dX12_ranks_64 rfl ?_
        refine G.iload_n dX12_ranks_66 rfl rfl ?_
        refine G.iast dX12_ranks_67 h (fun M15 h => ?_)
        refine G.iinc s1.1 (w := (s1.1 + (1 : Int32))) (lv' := [(3, .int (s1.1 + (1 : Int32))), (0, .ref a0), (1, .int a1), (2, .int a2), (4, .int e4.1)]) dX12_ranks_68 rfl rfl (Nat.le_of_ble_eq_true rfl) rfl ?_
        refine G.goto 2 dX12_ranks_71 (by decide) ?_
        refine G.sub (lv' := [(0, .ref a0), (1, .int a1), (2, .int a2), (3, .int (s1.1 + (1 : Int32)))]) [1, 2, 3, 0] rfl ?_
        have h := leafL' h K1
        exact h
      · intro s4 x4 h K4
        show G yX12_ranks cX12_ranks 5 none 2 14 [(0, .ref a0), (1, .int a1), (2, .int a2), (3, .int s1.1), (4, .int s4.1)] [] s4.2 none o
        refine G.iload dX12_ranks_14 rfl ?_
        refine G.if_le 60 dX12_ranks_16 (by decide) h (fun c5 h => ?_) (fun c5 h => ?_)
        · refine G.sub (lv' := [(0, .ref a0), (1, .int a1), (2, .int a2), (3, .int s1.1), (4, .int s4.1)]) [0, 1, 2, 3, 4] rfl ?_
          have h := leafR' h K4
          exact h
        · refine G.aload_n dX12_ranks_19 rfl rfl ?_
          refine G.iload_n dX12_ranks_20 rfl rfl ?_
          refine G.aload_n dX12_ranks_21 rfl rfl ?_
          refine G.getR dX12_ranks_22 fkX12_197 fr12_81 h (fun v6 h => ?_)
          refine G.iload dX12_ranks_25 rfl ?_
          refine G.iconst (1 : Int32) dX12_ranks_27 ki_1 ?_
          refine G.isub dX12_ranks_28 ?_
          refine G.iald dX12_ranks_29 h (fun v7 h => ?_)
          refine G.iload_n dX12_ranks_30 rfl rfl ?_
          refine G.iload_n dX12_ranks_31 rfl rfl ?_
          refine G.callVi (ci := 12) [.int s1.1, .int v7, .int a1, .int a2] [] dX12_ranks_32 lkX12_541 okX12_isAhead rfl (fun v hv => C_X12_isAhead hv) (Nat.le_of_ble_eq_true rfl) rfl rfl (Nat.le_of_ble_eq_true rfl) h (fun v8 h => ?_)
          refine G.if_eq 60 dX12_ranks_35 (by decide) h (fun c9 h => ?_) (fun c9 h => ?_)
          · refine G.sub (lv' := [(0, .ref a0), (1, .int a1), (2, .int a2), (3, .int s1.1), (4, .int s4.1)]) [0, 1, 2, 3, 4] rfl ?_
            have h := leafR' h K4
            exact h
          · refine G.aload_n dX12_ranks_38 rfl rfl ?_
            refine G.getR dX12_ranks_39 fkX12_197 fr12_81 h (fun v10 h => ?_)
            refine G.iload dX12_ranks_42 rfl ?_
            refine G.aload_n dX12_ranks_44 rfl rfl ?_
            refine G.getR dX12_ranks_45 fkX12_197 fr12_81 h (fun v11 h => ?_)
            refine G.iload dX12_ranks_48 rfl ?_
            refine G.iconst (1 : Int32) dX12_ranks_50 ki_1 ?_
            refine G.isub dX12_ranks_51 ?_
            refine G.iald dX12_ranks_52 h (fun v12 h => ?_)
            refine G.iast dX12_ranks_53 h (fun M13 h => ?_)
            refine G.iinc s4.1 (w := (s4.1 + (-1 : Int32))) (lv' := [(4, .int (s4.1 + (-1 : Int32))), (0, .ref a0), (1, .int a1), (2, .int a2), (3, .int s1.1)]) dX12_ranks_54 rfl rfl (Nat.le_of_ble_eq_true rfl) rfl ?_
            refine G.goto 14 dX12_ranks_57 (by decide) ?_
            refine G.sub (lv' := [(0, .ref a0), (1, .int a1), (2, .int a2), (3, .int s1.1), (4, .int (s4.1 + (-1 : Int32)))]) [1, 2, 3, 4, 0] rfl ?_
            have h := leafL' h K4
            exact h
-- OnlyUpwardModel.rank(II)I
set_option maxRecDepth 100000 in
set_option maxHeartbeats 4000000 in
def F_X12_rank (n : Nat) (M : AM) (a0 : Nat) (a1 : Int32) (a2 : Int32) : Option (Int32 × AM) :=
  (F_X12_isEnd n M a1).bind fun v1 => if v1 = 0 then some ((-1 : Int32), M) else (rcv 12 M a0 (F_X12_isPerson n M a0 a2)).bind fun v3 => if v3 = 0 then some ((-1 : Int32), M) else (rcv 12 M a0 (F_X12_goesAsTold n M a0)).bind fun M6 => (rcv 12 M6 a0 (F_X12_ranks n M6 a0 a1 (1 : Int32))).bind fun M8 => (gR 12 81 M8 a0).bind fun v9 => (rdI M8 v9 a2).bind fun v10 => some (v10, M8)
set_option maxRecDepth 100000 in
set_option maxHeartbeats 4000000 in
theorem C_X12_rank {n : Nat} {M : AM} {a0 : Nat} {a1 : Int32} {a2 : Int32} {o : (Int32 × AM)} (h : F_X12_rank n M a0 a1 a2 = some o) : Cn yX12_rank cX12_rank 3 (some .int) 7 [.ref a0, .int a1, .int a2] M (some (.int o.1)) o.2 := by
  unfold F_X12_rank at h
  refine Cn.of rfl (Nat.le_of_ble_eq_true rfl) ?_
  show G yX12_rank cX12_rank 3 (some .int) 7 0 [(0, .ref a0), (1, .int a1), (2, .int a2)] [] M (some (.int o.1)) o.2
  refine G.iload_n dX12_rank_0 rfl rfl ?_
  refine G.callSi [.int a1] [] dX12_rank_1 lkX12_478 okX12_isEnd (fun v hv => C_X12_isEnd hv) (Nat.le_of_ble_eq_true rfl) rfl rfl (Nat.le_of_ble_eq_true rfl) h (fun v1 h => ?_)
  refine G.if_eq 15 dX12_rank_4 (by decide) h (fun c2 h => ?_) (fun c2 h => ?_)
  · refine G.iconst (-1 : Int32) dX12_rank_15 ki_m1 ?_
    exact G.iretW dX12_rank_16 rfl (rfl) h
  · refine G.aload_n dX12_rank_7 rfl rfl ?_
    refine G.iload_n dX12_rank_8 rfl rfl ?_
    refine G.callVi (ci := 12) [.int a2] [] dX12_rank_9 lkX12_415 okX12_isPerson rfl (fun v hv => C_X12_isPerson hv) (Nat.le_of_ble_eq_true rfl) rfl rfl (Nat.le_of_ble_eq_true rfl) h (fun v3 h => ?_)
    refine G.if_ne 17 dX12_rank_12 (by decide) h (fun c4 h => ?_) (fun c4 h => ?_)
    · refine G.iconst (-1 : Int32) dX12_rank_15 ki_m1 ?_
      exact G.iretW dX12_rank_16 rfl (rfl) h
    · refine G.aload_n dX12_rank_17 rfl rfl ?_
      refine G.callVv (ci := 12) [] [] dX12_rank_18 lkX12_472 okX12_goesAsTold rfl (fun v hv => C_X12_goesAsTold hv) (Nat.le_of_ble_eq_true rfl) rfl rfl (Nat.le_of_ble_eq_true rfl) h (fun M6 h => ?_)
      refine G.aload_n dX12_rank_21 rfl rfl ?_
      refine G.iload_n dX12_rank_22 rfl rfl ?_
      refine G.iconst (1 : Int32) dX12_rank_23 ki_1 ?_
      refine G.callVv (ci := 12) [.int a1, .int (1 : Int32)] [] dX12_rank_24 lkX12_545 okX12_ranks rfl (fun v hv => C_X12_ranks hv) (Nat.le_of_ble_eq_true rfl) rfl rfl (Nat.le_of_ble_eq_true rfl) h (fun M8 h => ?_)
      refine G.aload_n dX12_rank_27 rfl rfl ?_
      refine G.getR dX12_rank_28 fkX12_197 fr12_81 h (fun v9 h => ?_)
      refine G.iload_n dX12_rank_31 rfl rfl ?_
      refine G.iald dX12_rank_32 h (fun v10 h => ?_)
      exact G.iretW dX12_rank_33 rfl (rfl) h
-- OnlyUpwardModel.share(III)I
set_option maxRecDepth 100000 in
set_option maxHeartbeats 4000000 in
def F_X12_share (n : Nat) (M : AM) (a0 : Nat) (a1 : Int32) (a2 : Int32) (a3 : Int32) : Option (Int32 × AM) :=
  (F_X12_isEnd n M a1).bind fun v1 => if v1 = 0 then some ((-1 : Int32), M) else (F_X12_in n M a2 (0 : Int32) (10 : Int32)).bind fun v3 => if v3 = 0 then some ((-1 : Int32), M) else (F_X12_in n M a3 (0 : Int32) (1 : Int32)).bind fun v5 => if v5 = 0 then some ((-1 : Int32), M) else (rcv 12 M a0 (F_X12_goesAsTold n M a0)).bind fun M8 => (rcv 12 M8 a0 (F_X12_ranks n M8 a0 (0 : Int32) (0 : Int32))).bind fun M10 => (iter (fun (s11 : Int32 × Int32) => (rcv 12 M10 a0 (F_X12_has n M10 a0 (1 : Int32))).bind fun v12 => if v12 ≤ s11.2 then some (.inr s11.1) else jn (fun (u14 : Int32) => some (.inl (u14, (s11.2 + (1 : Int32))))) fun j15 => jn ((gR 12 68 M10 a0).bind fun v16 => (gR 12 81 M10 a0).bind fun v17 => (rdI M10 v17 s11.2).bind fun v18 => (rdI M10 v16 (((10 : Int32) * a1) + v18)).bind fun v19 => (F_X12_bits n M10 v19).bind fun v20 => j15 (s11.1 + v20)) fun j21 => if a3 = (1 : Int32) then j21 else if a2 ≤ s11.2 then j15 s11.1 else j21) n ((0 : Int32), (0 : Int32))).bind fun (e11 : Int32) => some (e11, M10)
set_option maxRecDepth 100000 in
set_option maxHeartbeats 4000000 in
theorem C_X12_share {n : Nat} {M : AM} {a0 : Nat} {a1 : Int32} {a2 : Int32} {a3 : Int32} {o : (Int32 × AM)} (h : F_X12_share n M a0 a1 a2 a3 = some o) : Cn yX12_share cX12_share 6 (some .int) 7 [.ref a0, .int a1, .int a2, .int a3] M (some (.int o.1)) o.2 := by
  unfold F_X12_share at h
  refine Cn.of rfl (Nat.le_of_ble_eq_true rfl) ?_
  show G yX12_share cX12_share 6 (some .int) 7 0 [(0, .ref a0), (1, .int a1), (2, .int a2), (3, .int a3)] [] M (some (.int o.1)) o.2
  refine G.iload_n dX12_share_0 rfl rfl ?_
  refine G.callSi [.int a1] [] dX12_share_1 lkX12_478 okX12_isEnd (fun v hv => C_X12_isEnd hv) (Nat.le_of_ble_eq_true rfl) rfl rfl (Nat.le_of_ble_eq_true rfl) h (fun v1 h => ?_)
  refine G.if_eq 26 dX12_share_4 (by decide) h (fun c2 h => ?_) (fun c2 h => ?_)
  · refine G.iconst (-1 : Int32) dX12_share_26 ki_m1 ?_
    exact G.iretW dX12_share_27 rfl (rfl) h
  · refine G.iload_n dX12_share_7 rfl rfl ?_
    refine G.iconst (0 : Int32) dX12_share_8 ki_0 ?_
    refine G.bipush (10 : Int32) dX12_share_9 kb_10 ?_
    refine G.callSi [.int a2, .int (0 : Int32), .int (10 : Int32)] [] dX12_share_11 lkX12_386 okX12_in (fun v hv => C_X12_in hv) (Nat.le_of_ble_eq_true rfl) rfl rfl (Nat.le_of_ble_eq_true rfl) h (fun v3 h => ?_)
    refine G.if_eq 26 dX12_share_14 (by decide) h (fun c4 h => ?_) (fun c4 h => ?_)
    · refine G.iconst (-1 : Int32) dX12_share_26 ki_m1 ?_
      exact G.iretW dX12_share_27 rfl (rfl) h
    · refine G.iload_n dX12_share_17 rfl rfl ?_
      refine G.iconst (0 : Int32) dX12_share_18 ki_0 ?_
      refine G.iconst (1 : Int32) dX12_share_19 ki_1 ?_
      refine G.callSi [.int a3, .int (0 : Int32), .int (1 : Int32)] [] dX12_share_20 lkX12_386 okX12_in (fun v hv => C_X12_in hv) (Nat.le_of_ble_eq_true rfl) rfl rfl (Nat.le_of_ble_eq_true rfl) h (fun v5 h => ?_)
      refine G.if_ne 28 dX12_share_23 (by decide) h (fun c6 h => ?_) (fun c6 h => ?_)
      · refine G.iconst (-1 : Int32) dX12_share_26 ki_m1 ?_
        exact G.iretW dX12_share_27 rfl (rfl) h
      · refine G.aload_n dX12_share_28 rfl rfl ?_
        refine G.callVv (ci := 12) [] [] dX12_share_29 lkX12_472 okX12_goesAsTold rfl (fun v hv => C_X12_goesAsTold hv) (Nat.le_of_ble_eq_true rfl) rfl rfl (Nat.le_of_ble_eq_true rfl) h (fun M8 h => ?_)
        refine G.aload_n dX12_share_32 rfl rfl ?_
        refine G.iconst (0 : Int32) dX12_share_33 ki_0 ?_
        refine G.iconst (0 : Int32) dX12_share_34 ki_0 ?_
        refine G.callVv (ci := 12) [.int (0 : Int32), .int (0 : Int32)] [] dX12_share_35 lkX12_545 okX12_ranks rfl (fun v hv => C_X12_ranks hv) (Nat.le_of_ble_eq_true rfl) rfl rfl (Nat.le_of_ble_eq_true rfl) h (fun M10 h => ?_)
        refine G.iconst (0 : Int32) dX12_share_38 ki_0 ?_
        refine G.istore (lv' := [(4, .int (0 : Int32)), (0, .ref a0), (1, .int a1), (2, .int a2), (3, .int a3)]) dX12_share_39 (Nat.le_of_ble_eq_true rfl) rfl ?_
        refine G.iconst (0 : Int32) dX12_share_41 ki_0 ?_
        refine G.istore (lv' := [(5, .int (0 : Int32)), (4, .int (0 : Int32)), (0, .ref a0), (1, .int a1), (2, .int a2), (3, .int a3)]) dX12_share_42 (Nat.le_of_ble_eq_true rfl) rfl ?_
        refine G.sub (lv' := [(0, .ref a0), (1, .int a1), (2, .int a2), (3, .int a3), (4, .int (0 : Int32)), (5, .int (0 : Int32))]) [2, 3, 4, 5, 1, 0] rfl ?_
        refine loopE (fun (s11 : Int32 × Int32) => G yX12_share cX12_share 6 (some .int) 7 44 [(0, .ref a0), (1, .int a1), (2, .int a2), (3, .int a3), (4, .int s11.1), (5, .int s11.2)] [] M10 (some (.int o.1)) o.2) (fun (e11 : Int32) => G yX12_share cX12_share 6 (some .int) 7 96 [(4, .int e11)] [] M10 (some (.int o.1)) o.2) h ?_ ?_
        · intro e11 h
          show G yX12_share cX12_share 6 (some .int) 7 96 [(4, .int e11)] [] M10 (some (.int o.1)) o.2
          refine G.iload dX12_share_96 rfl ?_
          exact G.iretW dX12_share_98 rfl (rfl) h
        · intro s11 x11 h K11
          show G yX12_share cX12_share 6 (some .int) 7 44 [(0, .ref a0), (1, .int a1), (2, .int a2), (3, .int a3), (4, .int s11.1), (5, .int s11.2)] [] M10 (some (.int o.1)) o.2
          refine G.iload dX12_share_44 rfl ?_
          refine G.aload_n dX12_share_46 rfl rfl ?_
          refine G.iconst (1 : Int32) dX12_share_47 ki_1 ?_
          refine G.callVi (ci := 12) [.int (1 : Int32)] [.int s11.2] dX12_share_48 lkX12_383 okX12_has rfl (fun v hv => C_X12_has hv) (Nat.le_of_ble_eq_true rfl) rfl rfl (Nat.le_of_ble_eq_true rfl) h (fun v12 h => ?_)
          refine G.icmp_ge 96 dX12_share_51 (by decide) h (fun c13 h => ?_) (fun c13 h => ?_)
          · refine G.sub (lv' := [(4, .int s11.1)]) [4] rfl ?_
            have h := leafR' h K11
            exact h
          · refine G.iload_n dX12_share_54 rfl rfl ?_
            refine G.iconst (1 : Int32) dX12_share_55 ki_1 ?_
            refine jn_elim (fun j15 => ∀ (u14 : Int32), j15 u14 = some x11 → G yX12_share cX12_share 6 (some .int) 7 90 [(0, .ref a0), (1, .int a1), (2, .int a2), (3, .int a3), (4, .int u14), (5, .int s11.2)] [] M10 (some (.int o.1)) o.2) h ?_ ?_
            · intro u14 h
              refine G.iinc s11.2 (w := (s11.2 + (1 : Int32))) (lv' := [(5, .int (s11.2 + (1 : Int32))), (0, .ref a0), (1, .int a1), (2, .int a2), (3, .int a3), (4, .int u14)]) dX12_share_90 rfl rfl (Nat.le_of_ble_eq_true rfl) rfl ?_
              refine G.goto 44 dX12_share_93 (by decide) ?_
              refine G.sub (lv' := [(0, .ref a0), (1, .int a1), (2, .int a2), (3, .int a3), (4, .int u14), (5, .int (s11.2 + (1 : Int32)))]) [1, 2, 3, 4, 5, 0] rfl ?_
              have h := leafL' h K11
              exact h
            · intro j15 Jj15 h
              refine jn_elim (fun j21 => j21 = some x11 → G yX12_share cX12_share 6 (some .int) 7 65 [(0, .ref a0), (1, .int a1), (2, .int a2), (3, .int a3), (4, .int s11.1), (5, .int s11.2)] [] M10 (some (.int o.1)) o.2) h ?_ ?_
              · intro h
                refine G.iload dX12_share_65 rfl ?_
                refine G.aload_n dX12_share_67 rfl rfl ?_
                refine G.getR dX12_share_68 fkX12_164 fr12_68 h (fun v16 h => ?_)
                refine G.bipush (10 : Int32) dX12_share_71 kb_10 ?_
                refine G.iload_n dX12_share_73 rfl rfl ?_
                refine G.imul dX12_share_74 ?_
                refine G.aload_n dX12_share_75 rfl rfl ?_
                refine G.getR dX12_share_76 fkX12_197 fr12_81 h (fun v17 h => ?_)
                refine G.iload dX12_share_79 rfl ?_
                refine G.iald dX12_share_81 h (fun v18 h => ?_)
                refine G.iadd dX12_share_82 ?_
                refine G.iald dX12_share_83 h (fun v19 h => ?_)
                refine G.callSi [.int v19] [.int s11.1] dX12_share_84 lkX12_409 okX12_bits (fun v hv => C_X12_bits hv) (Nat.le_of_ble_eq_true rfl) rfl rfl (Nat.le_of_ble_eq_true rfl) h (fun v20 h => ?_)
                refine G.iadd dX12_share_87 ?_
                refine G.istore (lv' := [(4, .int (s11.1 + v20)), (0, .ref a0), (1, .int a1), (2, .int a2), (3, .int a3), (5, .int s11.2)]) dX12_share_88 (Nat.le_of_ble_eq_true rfl) rfl ?_
                refine G.sub (lv' := [(0, .ref a0), (1, .int a1), (2, .int a2), (3, .int a3), (4, .int (s11.1 + v20)), (5, .int s11.2)]) [1, 2, 3, 4, 0, 5] rfl ?_
                exact Jj15 _ h
              · intro j21 Jj21 h
                refine G.icmp_eq 65 dX12_share_56 (by decide) h (fun c22 h => ?_) (fun c22 h => ?_)
                · refine G.sub (lv' := [(0, .ref a0), (1, .int a1), (2, .int a2), (3, .int a3), (4, .int s11.1), (5, .int s11.2)]) [0, 1, 2, 3, 4, 5] rfl ?_
                  exact Jj21  h
                · refine G.iload dX12_share_59 rfl ?_
                  refine G.iload_n dX12_share_61 rfl rfl ?_
                  refine G.icmp_ge 90 dX12_share_62 (by decide) h (fun c23 h => ?_) (fun c23 h => ?_)
                  · refine G.sub (lv' := [(0, .ref a0), (1, .int a1), (2, .int a2), (3, .int a3), (4, .int s11.1), (5, .int s11.2)]) [0, 1, 2, 3, 4, 5] rfl ?_
                    exact Jj15 _ h
                  · refine G.sub (lv' := [(0, .ref a0), (1, .int a1), (2, .int a2), (3, .int a3), (4, .int s11.1), (5, .int s11.2)]) [0, 1, 2, 3, 4, 5] rfl ?_
                    exact Jj21  h
-- OnlyUpwardModel.gain(III)I
set_option maxRecDepth 100000 in
set_option maxHeartbeats 4000000 in
def F_X12_gain (n : Nat) (M : AM) (a0 : Nat) (a1 : Int32) (a2 : Int32) (a3 : Int32) : Option Int32 :=
  (iter (fun (s1 : Int32 × Int32) => (rcv 12 M a0 (F_X12_has n M a0 (6 : Int32))).bind fun v2 => if v2 ≤ s1.2 then some (.inr s1.1) else (gI 12 18 M a0).bind fun v4 => (gR 12 37 M a0).bind fun v5 => (rdI M v5 (((12 : Int32) * v4) + s1.2)).bind fun v6 => (gR 12 38 M a0).bind fun v7 => (rdI M v7 (((12 : Int32) * v4) + s1.2)).bind fun v8 => jn (fun (u9 : Int32) => some (.inl (u9, (s1.2 + (1 : Int32))))) fun j10 => if v8 = a3 then (gR 12 39 M a0).bind fun v12 => (rdI M v12 (((12 : Int32) * v4) + s1.2)).bind fun v13 => if v13 ≤ a2 then j10 s1.1 else if ((a1 >>> (v6 &&& 31)) &&& (1 : Int32)) = 0 then j10 s1.1 else (gR 12 68 M a0).bind fun v16 => (rdI M v16 ((((10 : Int32) * a2) + (10 : Int32)) + v6)).bind fun v17 => if ((v17 >>> (a3 &&& 31)) &&& (1 : Int32)) = 0 then (rcv 12 M a0 (F_X12_worthOfMust n M a0 s1.2)).bind fun v19 => j10 (s1.1 + v19) else j10 s1.1 else j10 s1.1) n ((0 : Int32), (0 : Int32))).bind fun (e1 : Int32) => some e1
set_option maxRecDepth 100000 in
set_option maxHeartbeats 4000000 in
theorem C_X12_gain {n : Nat} {M : AM} {a0 : Nat} {a1 : Int32} {a2 : Int32} {a3 : Int32} {o : Int32} (h : F_X12_gain n M a0 a1 a2 a3 = some o) : Cn yX12_gain cX12_gain 8 (some .int) 1 [.ref a0, .int a1, .int a2, .int a3] M (some (.int o)) M := by
  unfold F_X12_gain at h
  refine Cn.of rfl (Nat.le_of_ble_eq_true rfl) ?_
  show G yX12_gain cX12_gain 8 (some .int) 1 0 [(0, .ref a0), (1, .int a1), (2, .int a2), (3, .int a3)] [] M (some (.int o)) M
  refine G.iconst (0 : Int32) dX12_gain_0 ki_0 ?_
  refine G.istore (lv' := [(4, .int (0 : Int32)), (0, .ref a0), (1, .int a1), (2, .int a2), (3, .int a3)]) dX12_gain_1 (Nat.le_of_ble_eq_true rfl) rfl ?_
  refine G.iconst (0 : Int32) dX12_gain_3 ki_0 ?_
  refine G.istore (lv' := [(5, .int (0 : Int32)), (4, .int (0 : Int32)), (0, .ref a0), (1, .int a1), (2, .int a2), (3, .int a3)]) dX12_gain_4 (Nat.le_of_ble_eq_true rfl) rfl ?_
  refine G.sub (lv' := [(0, .ref a0), (1, .int a1), (2, .int a2), (3, .int a3), (4, .int (0 : Int32)), (5, .int (0 : Int32))]) [2, 3, 4, 5, 1, 0] rfl ?_
  refine loopE (fun (s1 : Int32 × Int32) => G yX12_gain cX12_gain 8 (some .int) 1 6 [(0, .ref a0), (1, .int a1), (2, .int a2), (3, .int a3), (4, .int s1.1), (5, .int s1.2)] [] M (some (.int o)) M) (fun (e1 : Int32) => G yX12_gain cX12_gain 8 (some .int) 1 111 [(4, .int e1)] [] M (some (.int o)) M) h ?_ ?_
  · intro e1 h
    show G yX12_gain cX12_gain 8 (some .int) 1 111 [(4, .int e1)] [] M (some (.int o)) M
    refine G.iload dX12_gain_111 rfl ?_
    exact G.iret dX12_gain_113 rfl (rfl) h
  · intro s1 x1 h K1
    show G yX12_gain cX12_gain 8 (some .int) 1 6 [(0, .ref a0), (1, .int a1), (2, .int a2), (3, .int a3), (4, .int s1.1), (5, .int s1.2)] [] M (some (.int o)) M
    refine G.iload dX12_gain_6 rfl ?_
    refine G.aload_n dX12_gain_8 rfl rfl ?_
    refine G.bipush (6 : Int32) dX12_gain_9 kb_6 ?_
    refine G.callVi (ci := 12) [.int (6 : Int32)] [.int s1.2] dX12_gain_11 lkX12_383 okX12_has rfl (fun v hv => C_X12_has hv) (Nat.le_of_ble_eq_true rfl) rfl rfl (Nat.le_of_ble_eq_true rfl) h (fun v2 h => ?_)
    refine G.icmp_ge 111 dX12_gain_14 (by decide) h (fun c3 h => ?_) (fun c3 h => ?_)
    · refine G.sub (lv' := [(4, .int s1.1)]) [4] rfl ?_
      have h := leafR' h K1
      exact h
    · refine G.bipush (12 : Int32) dX12_gain_17 kb_12 ?_
      refine G.aload_n dX12_gain_19 rfl rfl ?_
      refine G.getI dX12_gain_20 fkX12_290 fr12_18 h (fun v4 h => ?_)
      refine G.imul dX12_gain_23 ?_
      refine G.iload dX12_gain_24 rfl ?_
      refine G.iadd dX12_gain_26 ?_
      refine G.istore (lv' := [(6, .int (((12 : Int32) * v4) + s1.2)), (0, .ref a0), (1, .int a1), (2, .int a2), (3, .int a3), (4, .int s1.1), (5, .int s1.2)]) dX12_gain_27 (Nat.le_of_ble_eq_true rfl) rfl ?_
      refine G.aload_n dX12_gain_29 rfl rfl ?_
      refine G.getR dX12_gain_30 fkX12_88 fr12_37 h (fun v5 h => ?_)
      refine G.iload dX12_gain_33 rfl ?_
      refine G.iald dX12_gain_35 h (fun v6 h => ?_)
      refine G.istore (lv' := [(7, .int v6), (6, .int (((12 : Int32) * v4) + s1.2)), (0, .ref a0), (1, .int a1), (2, .int a2), (3, .int a3), (4, .int s1.1), (5, .int s1.2)]) dX12_gain_36 (Nat.le_of_ble_eq_true rfl) rfl ?_
      refine G.aload_n dX12_gain_38 rfl rfl ?_
      refine G.getR dX12_gain_39 fkX12_91 fr12_38 h (fun v7 h => ?_)
      refine G.iload dX12_gain_42 rfl ?_
      refine G.iald dX12_gain_44 h (fun v8 h => ?_)
      refine G.iload_n dX12_gain_45 rfl rfl ?_
      refine jn_elim (fun j10 => ∀ (u9 : Int32), j10 u9 = some x1 → G yX12_gain cX12_gain 8 (some .int) 1 105 [(0, .ref a0), (1, .int a1), (2, .int a2), (3, .int a3), (4, .int u9), (5, .int s1.2)] [] M (some (.int o)) M) h ?_ ?_
      · intro u9 h
        refine G.iinc s1.2 (w := (s1.2 + (1 : Int32))) (lv' := [(5, .int (s1.2 + (1 : Int32))), (0, .ref a0), (1, .int a1), (2, .int a2), (3, .int a3), (4, .int u9)]) dX12_gain_105 rfl rfl (Nat.le_of_ble_eq_true rfl) rfl ?_
        refine G.goto 6 dX12_gain_108 (by decide) ?_
        refine G.sub (lv' := [(0, .ref a0), (1, .int a1), (2, .int a2), (3, .int a3), (4, .int u9), (5, .int (s1.2 + (1 : Int32)))]) [1, 2, 3, 4, 5, 0] rfl ?_
        have h := leafL' h K1
        exact h
      · intro j10 Jj10 h
        refine G.icmp_ne 105 dX12_gain_46 (by decide) h (fun c11 h => ?_) (fun c11 h => ?_)
        · refine G.aload_n dX12_gain_49 rfl rfl ?_
          refine G.getR dX12_gain_50 fkX12_94 fr12_39 h (fun v12 h => ?_)
          refine G.iload dX12_gain_53 rfl ?_
          refine G.iald dX12_gain_55 h (fun v13 h => ?_)
          refine G.iload_n dX12_gain_56 rfl rfl ?_
          refine G.icmp_le 105 dX12_gain_57 (by decide) h (fun c14 h => ?_) (fun c14 h => ?_)
          · refine G.sub (lv' := [(0, .ref a0), (1, .int a1), (2, .int a2), (3, .int a3), (4, .int s1.1), (5, .int s1.2)]) [2, 3, 4, 5, 6, 7] rfl ?_
            exact Jj10 _ h
          · refine G.iload_n dX12_gain_60 rfl rfl ?_
            refine G.iload dX12_gain_61 rfl ?_
            refine G.ishr dX12_gain_63 ?_
            refine G.iconst (1 : Int32) dX12_gain_64 ki_1 ?_
            refine G.iand dX12_gain_65 ?_
            refine G.if_ne 72 dX12_gain_66 (by decide) h (fun c15 h => ?_) (fun c15 h => ?_)
            · refine G.goto 105 dX12_gain_69 (by decide) ?_
              refine G.sub (lv' := [(0, .ref a0), (1, .int a1), (2, .int a2), (3, .int a3), (4, .int s1.1), (5, .int s1.2)]) [2, 3, 4, 5, 6, 7] rfl ?_
              exact Jj10 _ h
            · refine G.aload_n dX12_gain_72 rfl rfl ?_
              refine G.getR dX12_gain_73 fkX12_164 fr12_68 h (fun v16 h => ?_)
              refine G.bipush (10 : Int32) dX12_gain_76 kb_10 ?_
              refine G.iload_n dX12_gain_78 rfl rfl ?_
              refine G.imul dX12_gain_79 ?_
              refine G.bipush (10 : Int32) dX12_gain_80 kb_10 ?_
              refine G.iadd dX12_gain_82 ?_
              refine G.iload dX12_gain_83 rfl ?_
              refine G.iadd dX12_gain_85 ?_
              refine G.iald dX12_gain_86 h (fun v17 h => ?_)
              refine G.iload_n dX12_gain_87 rfl rfl ?_
              refine G.ishr dX12_gain_88 ?_
              refine G.iconst (1 : Int32) dX12_gain_89 ki_1 ?_
              refine G.iand dX12_gain_90 ?_
              refine G.if_ne 105 dX12_gain_91 (by decide) h (fun c18 h => ?_) (fun c18 h => ?_)
              · refine G.iload dX12_gain_94 rfl ?_
                refine G.aload_n dX12_gain_96 rfl rfl ?_
                refine G.iload dX12_gain_97 rfl ?_
                refine G.callVi (ci := 12) [.int s1.2] [.int s1.1] dX12_gain_99 lkX12_532 okX12_worthOfMust rfl (fun v hv => C_X12_worthOfMust hv) (Nat.le_of_ble_eq_true rfl) rfl rfl (Nat.le_of_ble_eq_true rfl) h (fun v19 h => ?_)
                refine G.iadd dX12_gain_102 ?_
                refine G.istore (lv' := [(4, .int (s1.1 + v19)), (7, .int v6), (6, .int (((12 : Int32) * v4) + s1.2)), (0, .ref a0), (1, .int a1), (2, .int a2), (3, .int a3), (5, .int s1.2)]) dX12_gain_103 (Nat.le_of_ble_eq_true rfl) rfl ?_
                refine G.sub (lv' := [(0, .ref a0), (1, .int a1), (2, .int a2), (3, .int a3), (4, .int (s1.1 + v19)), (5, .int s1.2)]) [3, 4, 5, 6, 0, 7] rfl ?_
                exact Jj10 _ h
              · refine G.sub (lv' := [(0, .ref a0), (1, .int a1), (2, .int a2), (3, .int a3), (4, .int s1.1), (5, .int s1.2)]) [2, 3, 4, 5, 6, 7] rfl ?_
                exact Jj10 _ h
        · refine G.sub (lv' := [(0, .ref a0), (1, .int a1), (2, .int a2), (3, .int a3), (4, .int s1.1), (5, .int s1.2)]) [2, 3, 4, 5, 6, 7] rfl ?_
          exact Jj10 _ h
-- OnlyUpwardModel.offers(IIII)V
set_option maxRecDepth 100000 in
set_option maxHeartbeats 4000000 in
def F_X12_offers (n : Nat) (M : AM) (a0 : Nat) (a1 : Int32) (a2 : Int32) (a3 : Int32) (a4 : Int32) : Option AM :=
  (rcv 12 M a0 (F_X12_gain n M a0 a1 a2 a3)).bind fun v1 => (gI 12 84 M a0).bind fun v2 => if v2 < v1 then (pI 12 84 M a0 v1).bind fun M4 => (pI 12 85 M4 a0 a1).bind fun M5 => (pI 12 86 M5 a0 a3).bind fun M6 => (pI 12 87 M6 a0 a4).bind fun M7 => some M7 else some M
set_option maxRecDepth 100000 in
set_option maxHeartbeats 4000000 in
theorem C_X12_offers {n : Nat} {M : AM} {a0 : Nat} {a1 : Int32} {a2 : Int32} {a3 : Int32} {a4 : Int32} {o : AM} (h : F_X12_offers n M a0 a1 a2 a3 a4 = some o) : Cn yX12_offers cX12_offers 6 none 2 [.ref a0, .int a1, .int a2, .int a3, .int a4] M none o := by
  unfold F_X12_offers at h
  refine Cn.of rfl (Nat.le_of_ble_eq_true rfl) ?_
  show G yX12_offers cX12_offers 6 none 2 0 [(0, .ref a0), (1, .int a1), (2, .int a2), (3, .int a3), (4, .int a4)] [] M none o
  refine G.aload_n dX12_offers_0 rfl rfl ?_
  refine G.iload_n dX12_offers_1 rfl rfl ?_
  refine G.iload_n dX12_offers_2 rfl rfl ?_
  refine G.iload_n dX12_offers_3 rfl rfl ?_
  refine G.callVi (ci := 12) [.int a1, .int a2, .int a3] [] dX12_offers_4 lkX12_549 okX12_gain rfl (fun v hv => C_X12_gain hv) (Nat.le_of_ble_eq_true rfl) rfl rfl (Nat.le_of_ble_eq_true rfl) h (fun v1 h => ?_)
  refine G.istore (lv' := [(5, .int v1), (0, .ref a0), (1, .int a1), (2, .int a2), (3, .int a3), (4, .int a4)]) dX12_offers_7 (Nat.le_of_ble_eq_true rfl) rfl ?_
  refine G.iload dX12_offers_9 rfl ?_
  refine G.aload_n dX12_offers_11 rfl rfl ?_
  refine G.getI dX12_offers_12 fkX12_552 fr12_84 h (fun v2 h => ?_)
  refine G.icmp_gt 19 dX12_offers_15 (by decide) h (fun c3 h => ?_) (fun c3 h => ?_)
  · refine G.aload_n dX12_offers_19 rfl rfl ?_
    refine G.iload dX12_offers_20 rfl ?_
    refine G.putI dX12_offers_22 fkX12_552 nf12_84 ft12_84 h (fun M4 h => ?_)
    refine G.aload_n dX12_offers_25 rfl rfl ?_
    refine G.iload_n dX12_offers_26 rfl rfl ?_
    refine G.putI dX12_offers_27 fkX12_555 nf12_85 ft12_85 h (fun M5 h => ?_)
    refine G.aload_n dX12_offers_30 rfl rfl ?_
    refine G.iload_n dX12_offers_31 rfl rfl ?_
    refine G.putI dX12_offers_32 fkX12_558 nf12_86 ft12_86 h (fun M6 h => ?_)
    refine G.aload_n dX12_offers_35 rfl rfl ?_
    refine G.iload dX12_offers_36 rfl ?_
    refine G.putI dX12_offers_38 fkX12_561 nf12_87 ft12_87 h (fun M7 h => ?_)
    exact G.vretW dX12_offers_41 rfl h
  · exact G.vretW dX12_offers_18 rfl h
