-- OnlyUpwardModel.unit()V
set_option maxRecDepth 100000 in
set_option maxHeartbeats 4000000 in
def F_X12_unit (n : Nat) (M : AM) (a0 : Nat) : Option AM :=
  (rcv 12 M a0 (F_X12_is n M a0 (2 : Int32))).bind fun v1 => if v1 = 0 then (gI 12 13 M a0).bind fun v3 => jn ((rcv 12 M a0 (F_X12_fail n M a0 (1 : Int32))).bind fun M5 => some M5) fun j6 => if v3 = 0 then (gR 12 5 M a0).bind fun v8 => (gI 12 11 M a0).bind fun v9 => (rdI M v8 v9).bind fun v10 => if v10 < (36 : Int32) then j6 else (gR 12 5 M a0).bind fun v12 => (gI 12 11 M a0).bind fun v13 => (rdI M v12 v13).bind fun v14 => if (39 : Int32) < v14 then j6 else (gR 12 5 M a0).bind fun v16 => (gI 12 11 M a0).bind fun v17 => (rdI M v16 v17).bind fun v18 => (rcv 12 M a0 (F_X12_emit n M a0 (1 : Int32) (v18 - (36 : Int32)))).bind fun M20 => (rcv 12 M20 a0 (F_X12_goesOn n M20 a0)).bind fun M22 => some M22 else j6 else (gR 12 7 M a0).bind fun v23 => (gI 12 11 M a0).bind fun v24 => (rdI M v23 v24).bind fun v25 => (rcv 12 M a0 (F_X12_emit n M a0 (0 : Int32) v25)).bind fun M27 => (rcv 12 M27 a0 (F_X12_goesOn n M27 a0)).bind fun M29 => some M29
set_option maxRecDepth 100000 in
set_option maxHeartbeats 4000000 in
theorem C_X12_unit {n : Nat} {M : AM} {a0 : Nat} {o : AM} (h : F_X12_unit n M a0 = some o) : Cn yX12_unit cX12_unit 1 none 2 [.ref a0] M none o := by
  unfold F_X12_unit at h
  refine Cn.of rfl (Nat.le_of_ble_eq_true rfl) ?_
  show G yX12_unit cX12_unit 1 none 2 0 [(0, .ref a0)] [] M none o
  refine G.aload_n dX12_unit_0 rfl rfl ?_
  refine G.iconst (2 : Int32) dX12_unit_1 ki_2 ?_
  refine G.callVi (ci := 12) [.int (2 : Int32)] [] dX12_unit_2 lkX12_278 okX12_is rfl (fun v hv => C_X12_is hv) (Nat.le_of_ble_eq_true rfl) rfl rfl (Nat.le_of_ble_eq_true rfl) h (fun v1 h => ?_)
  refine G.if_eq 29 dX12_unit_5 (by decide) h (fun c2 h => ?_) (fun c2 h => ?_)
  · refine G.aload_n dX12_unit_29 rfl rfl ?_
    refine G.getI dX12_unit_30 fkX12_260 fr12_13 h (fun v3 h => ?_)
    refine jn_elim (fun j6 => j6 = some o → G yX12_unit cX12_unit 1 none 2 88 [(0, .ref a0)] [] M none o) h ?_ ?_
    · intro h
      refine G.aload_n dX12_unit_88 rfl rfl ?_
      refine G.iconst (1 : Int32) dX12_unit_89 ki_1 ?_
      refine G.callVv (ci := 12) [.int (1 : Int32)] [] dX12_unit_90 lkX12_275 okX12_fail rfl (fun v hv => C_X12_fail hv) (Nat.le_of_ble_eq_true rfl) rfl rfl (Nat.le_of_ble_eq_true rfl) h (fun M5 h => ?_)
      exact G.vretW dX12_unit_93 rfl h
    · intro j6 Jj6 h
      refine G.if_ne 88 dX12_unit_33 (by decide) h (fun c7 h => ?_) (fun c7 h => ?_)
      · refine G.aload_n dX12_unit_36 rfl rfl ?_
        refine G.getR dX12_unit_37 fkX12_20 fr12_5 h (fun v8 h => ?_)
        refine G.aload_n dX12_unit_40 rfl rfl ?_
        refine G.getI dX12_unit_41 fkX12_263 fr12_11 h (fun v9 h => ?_)
        refine G.iald dX12_unit_44 h (fun v10 h => ?_)
        refine G.bipush (36 : Int32) dX12_unit_45 kb_36 ?_
        refine G.icmp_lt 88 dX12_unit_47 (by decide) h (fun c11 h => ?_) (fun c11 h => ?_)
        · refine G.sub (lv' := [(0, .ref a0)]) [0] rfl ?_
          exact Jj6  h
        · refine G.aload_n dX12_unit_50 rfl rfl ?_
          refine G.getR dX12_unit_51 fkX12_20 fr12_5 h (fun v12 h => ?_)
          refine G.aload_n dX12_unit_54 rfl rfl ?_
          refine G.getI dX12_unit_55 fkX12_263 fr12_11 h (fun v13 h => ?_)
          refine G.iald dX12_unit_58 h (fun v14 h => ?_)
          refine G.bipush (39 : Int32) dX12_unit_59 kb_39 ?_
          refine G.icmp_gt 88 dX12_unit_61 (by decide) h (fun c15 h => ?_) (fun c15 h => ?_)
          · refine G.sub (lv' := [(0, .ref a0)]) [0] rfl ?_
            exact Jj6  h
          · refine G.aload_n dX12_unit_64 rfl rfl ?_
            refine G.iconst (1 : Int32) dX12_unit_65 ki_1 ?_
            refine G.aload_n dX12_unit_66 rfl rfl ?_
            refine G.getR dX12_unit_67 fkX12_20 fr12_5 h (fun v16 h => ?_)
            refine G.aload_n dX12_unit_70 rfl rfl ?_
            refine G.getI dX12_unit_71 fkX12_263 fr12_11 h (fun v17 h => ?_)
            refine G.iald dX12_unit_74 h (fun v18 h => ?_)
            refine G.bipush (36 : Int32) dX12_unit_75 kb_36 ?_
            refine G.isub dX12_unit_77 ?_
            refine G.callVv (ci := 12) [.int (1 : Int32), .int (v18 - (36 : Int32))] [] dX12_unit_78 lkX12_364 okX12_emit rfl (fun v hv => C_X12_emit hv) (Nat.le_of_ble_eq_true rfl) rfl rfl (Nat.le_of_ble_eq_true rfl) h (fun M20 h => ?_)
            refine G.aload_n dX12_unit_81 rfl rfl ?_
            refine G.callVv (ci := 12) [] [] dX12_unit_82 lkX12_281 okX12_goesOn rfl (fun v hv => C_X12_goesOn hv) (Nat.le_of_ble_eq_true rfl) rfl rfl (Nat.le_of_ble_eq_true rfl) h (fun M22 h => ?_)
            refine G.goto 93 dX12_unit_85 (by decide) ?_
            exact G.vretW dX12_unit_93 rfl h
      · refine G.sub (lv' := [(0, .ref a0)]) [0] rfl ?_
        exact Jj6  h
  · refine G.aload_n dX12_unit_8 rfl rfl ?_
    refine G.iconst (0 : Int32) dX12_unit_9 ki_0 ?_
    refine G.aload_n dX12_unit_10 rfl rfl ?_
    refine G.getR dX12_unit_11 fkX12_27 fr12_7 h (fun v23 h => ?_)
    refine G.aload_n dX12_unit_14 rfl rfl ?_
    refine G.getI dX12_unit_15 fkX12_263 fr12_11 h (fun v24 h => ?_)
    refine G.iald dX12_unit_18 h (fun v25 h => ?_)
    refine G.callVv (ci := 12) [.int (0 : Int32), .int v25] [] dX12_unit_19 lkX12_364 okX12_emit rfl (fun v hv => C_X12_emit hv) (Nat.le_of_ble_eq_true rfl) rfl rfl (Nat.le_of_ble_eq_true rfl) h (fun M27 h => ?_)
    refine G.aload_n dX12_unit_22 rfl rfl ?_
    refine G.callVv (ci := 12) [] [] dX12_unit_23 lkX12_281 okX12_goesOn rfl (fun v hv => C_X12_goesOn hv) (Nat.le_of_ble_eq_true rfl) rfl rfl (Nat.le_of_ble_eq_true rfl) h (fun M29 h => ?_)
    refine G.goto 93 dX12_unit_26 (by decide) ?_
    exact G.vretW dX12_unit_93 rfl h
-- OnlyUpwardModel.comesOut(Z)V
set_option maxRecDepth 100000 in
set_option maxHeartbeats 4000000 in
def F_X12_comesOut (n : Nat) (M : AM) (a0 : Nat) (a1 : Int32) : Option AM :=
  (iter (fun (s1 : AM) => (gI 12 57 s1 a0).bind fun v2 => if v2 ≤ 0 then some (.inr (.inl s1)) else (gR 12 56 s1 a0).bind fun v4 => (gI 12 57 s1 a0).bind fun v5 => (rdI s1 v4 (v5 - (1 : Int32))).bind fun v6 => if v6 = (6 : Int32) then some (.inr (.inr s1)) else jn ((gI 12 57 s1 a0).bind fun v8 => (pI 12 57 s1 a0 (v8 - (1 : Int32))).bind fun M9 => jn (fun (u10 : Int32) => (rcv 12 M9 a0 (F_X12_emit n M9 a0 u10 (0 : Int32))).bind fun M12 => some (.inl M12)) fun j13 => if v6 = (8 : Int32) then j13 (2 : Int32) else if v6 = (9 : Int32) then j13 (3 : Int32) else if v6 = (10 : Int32) then j13 (4 : Int32) else j13 (5 : Int32)) fun j17 => if a1 = 0 then j17 else if v6 = (8 : Int32) then some (.inr (.inr s1)) else if v6 = (9 : Int32) then some (.inr (.inr s1)) else j17) n M).bind fun (z1 : (AM) ⊕ AM) => Sum.elim (fun (e1 : AM) => some e1) (fun (v : AM) => some v) z1
set_option maxRecDepth 100000 in
set_option maxHeartbeats 4000000 in
theorem C_X12_comesOut {n : Nat} {M : AM} {a0 : Nat} {a1 : Int32} {o : AM} (h : F_X12_comesOut n M a0 a1 = some o) : Cn yX12_comesOut cX12_comesOut 3 none 1 [.ref a0, .int a1] M none o := by
  unfold F_X12_comesOut at h
  refine Cn.of rfl (Nat.le_of_ble_eq_true rfl) ?_
  show G yX12_comesOut cX12_comesOut 3 none 1 0 [(0, .ref a0), (1, .int a1)] [] M none o
  refine G.sub (lv' := [(0, .ref a0), (1, .int a1)]) [0, 1] rfl ?_
  refine loopE (fun (s1 : AM) => G yX12_comesOut cX12_comesOut 3 none 1 0 [(0, .ref a0), (1, .int a1)] [] s1 none o) (fun (z1 : (AM) ⊕ AM) => Sum.elim (fun (e1 : AM) => G yX12_comesOut cX12_comesOut 3 none 1 91 [] [] e1 none o) (fun (v : AM) => some v = some o) z1) h ?_ ?_
  · intro z1 h
    rcases z1 with e1 | v
    · have h := sum_inl h
      show G yX12_comesOut cX12_comesOut 3 none 1 91 [] [] e1 none o
      exact G.vretW dX12_comesOut_91 rfl h
    · have h := sum_inr h
      exact h
  · intro s1 x1 h K1
    show G yX12_comesOut cX12_comesOut 3 none 1 0 [(0, .ref a0), (1, .int a1)] [] s1 none o
    refine G.aload_n dX12_comesOut_0 rfl rfl ?_
    refine G.getI dX12_comesOut_1 fkX12_361 fr12_57 h (fun v2 h => ?_)
    refine G.if_le 91 dX12_comesOut_4 (by decide) h (fun c3 h => ?_) (fun c3 h => ?_)
    · refine G.sub (lv' := []) [] rfl ?_
      have h := leafR' h K1
      exact h
    · refine G.aload_n dX12_comesOut_7 rfl rfl ?_
      refine G.getR dX12_comesOut_8 fkX12_140 fr12_56 h (fun v4 h => ?_)
      refine G.aload_n dX12_comesOut_11 rfl rfl ?_
      refine G.getI dX12_comesOut_12 fkX12_361 fr12_57 h (fun v5 h => ?_)
      refine G.iconst (1 : Int32) dX12_comesOut_15 ki_1 ?_
      refine G.isub dX12_comesOut_16 ?_
      refine G.iald dX12_comesOut_17 h (fun v6 h => ?_)
      refine G.istore_n (lv' := [(2, .int v6), (0, .ref a0), (1, .int a1)]) dX12_comesOut_18 rfl (Nat.le_of_ble_eq_true rfl) rfl ?_
      refine G.iload_n dX12_comesOut_19 rfl rfl ?_
      refine G.bipush (6 : Int32) dX12_comesOut_20 kb_6 ?_
      refine G.icmp_eq 41 dX12_comesOut_22 (by decide) h (fun c7 h => ?_) (fun c7 h => ?_)
      · have h := leafR' h K1
        exact G.vretW dX12_comesOut_41 rfl h
      · refine G.iload_n dX12_comesOut_25 rfl rfl ?_
        refine jn_elim (fun j17 => j17 = some x1 → G yX12_comesOut cX12_comesOut 3 none 1 42 [(0, .ref a0), (1, .int a1), (2, .int v6)] [] s1 none o) h ?_ ?_
        · intro h
          refine G.aload_n dX12_comesOut_42 rfl rfl ?_
          refine G.dup dX12_comesOut_43 rfl ?_
          refine G.getI dX12_comesOut_44 fkX12_361 fr12_57 h (fun v8 h => ?_)
          refine G.iconst (1 : Int32) dX12_comesOut_47 ki_1 ?_
          refine G.isub dX12_comesOut_48 ?_
          refine G.putI dX12_comesOut_49 fkX12_361 nf12_57 ft12_57 h (fun M9 h => ?_)
          refine G.aload_n dX12_comesOut_52 rfl rfl ?_
          refine G.iload_n dX12_comesOut_53 rfl rfl ?_
          refine G.bipush (8 : Int32) dX12_comesOut_54 kb_8 ?_
          refine jn_elim (fun j13 => ∀ (u10 : Int32), j13 u10 = some x1 → G yX12_comesOut cX12_comesOut 3 none 1 84 [(0, .ref a0), (1, .int a1)] [.int u10, .ref a0] M9 none o) h ?_ ?_
          · intro u10 h
            refine G.iconst (0 : Int32) dX12_comesOut_84 ki_0 ?_
            refine G.callVv (ci := 12) [.int u10, .int (0 : Int32)] [] dX12_comesOut_85 lkX12_364 okX12_emit rfl (fun v hv => C_X12_emit hv) (Nat.le_of_ble_eq_true rfl) rfl rfl (Nat.le_of_ble_eq_true rfl) h (fun M12 h => ?_)
            refine G.goto 0 dX12_comesOut_88 (by decide) ?_
            refine G.sub (lv' := [(0, .ref a0), (1, .int a1)]) [0, 1] rfl ?_
            have h := leafL' h K1
            exact h
          · intro j13 Jj13 h
            refine G.icmp_ne 63 dX12_comesOut_56 (by decide) h (fun c14 h => ?_) (fun c14 h => ?_)
            · refine G.iconst (2 : Int32) dX12_comesOut_59 ki_2 ?_
              refine G.goto 84 dX12_comesOut_60 (by decide) ?_
              refine G.sub (lv' := [(0, .ref a0), (1, .int a1)]) [0, 1] rfl ?_
              exact Jj13 _ h
            · refine G.iload_n dX12_comesOut_63 rfl rfl ?_
              refine G.bipush (9 : Int32) dX12_comesOut_64 kb_9 ?_
              refine G.icmp_ne 73 dX12_comesOut_66 (by decide) h (fun c15 h => ?_) (fun c15 h => ?_)
              · refine G.iconst (3 : Int32) dX12_comesOut_69 ki_3 ?_
                refine G.goto 84 dX12_comesOut_70 (by decide) ?_
                refine G.sub (lv' := [(0, .ref a0), (1, .int a1)]) [0, 1] rfl ?_
                exact Jj13 _ h
              · refine G.iload_n dX12_comesOut_73 rfl rfl ?_
                refine G.bipush (10 : Int32) dX12_comesOut_74 kb_10 ?_
                refine G.icmp_ne 83 dX12_comesOut_76 (by decide) h (fun c16 h => ?_) (fun c16 h => ?_)
                · refine G.iconst (4 : Int32) dX12_comesOut_79 ki_4 ?_
                  refine G.goto 84 dX12_comesOut_80 (by decide) ?_
                  refine G.sub (lv' := [(0, .ref a0), (1, .int a1)]) [0, 1] rfl ?_
                  exact Jj13 _ h
                · refine G.iconst (5 : Int32) dX12_comesOut_83 ki_5 ?_
                  refine G.sub (lv' := [(0, .ref a0), (1, .int a1)]) [0, 1] rfl ?_
                  exact Jj13 _ h
        · intro j17 Jj17 h
          refine G.if_eq 42 dX12_comesOut_26 (by decide) h (fun c18 h => ?_) (fun c18 h => ?_)
          · refine G.sub (lv' := [(0, .ref a0), (1, .int a1), (2, .int v6)]) [1, 2, 0] rfl ?_
            exact Jj17  h
          · refine G.iload_n dX12_comesOut_29 rfl rfl ?_
            refine G.bipush (8 : Int32) dX12_comesOut_30 kb_8 ?_
            refine G.icmp_eq 41 dX12_comesOut_32 (by decide) h (fun c19 h => ?_) (fun c19 h => ?_)
            · have h := leafR' h K1
              exact G.vretW dX12_comesOut_41 rfl h
            · refine G.iload_n dX12_comesOut_35 rfl rfl ?_
              refine G.bipush (9 : Int32) dX12_comesOut_36 kb_9 ?_
              refine G.icmp_ne 42 dX12_comesOut_38 (by decide) h (fun c20 h => ?_) (fun c20 h => ?_)
              · have h := leafR' h K1
                exact G.vretW dX12_comesOut_41 rfl h
              · refine G.sub (lv' := [(0, .ref a0), (1, .int a1), (2, .int v6)]) [1, 2, 0] rfl ?_
                exact Jj17  h
-- OnlyUpwardModel.expression()V
set_option maxRecDepth 100000 in
set_option maxHeartbeats 4000000 in
def F_X12_expression (n : Nat) (M : AM) (a0 : Nat) : Option AM :=
  (pI 12 57 M a0 (0 : Int32)).bind fun M1 => (gI 12 12 M1 a0).bind fun v2 => (iter (fun (s3 : Int32 × AM) => if s3.1 = 0 then some (.inr (.inl s3.2)) else (gI 12 13 s3.2 a0).bind fun v5 => if v5 = 0 then (iter (fun (s7 : AM) => (rcv 12 s7 a0 (F_X12_is n s7 a0 (6 : Int32))).bind fun v8 => if v8 = 0 then some (.inr s7) else (gI 12 12 s7 a0).bind fun v10 => jn (fun (M11 : AM) => (gI 12 12 M11 a0).bind fun v12 => (pI 12 12 M11 a0 (v12 + (1 : Int32))).bind fun M13 => (rcv 12 M13 a0 (F_X12_goesOn n M13 a0)).bind fun M15 => (gR 12 56 M15 a0).bind fun v16 => (gI 12 57 M15 a0).bind fun v17 => (wrI M15 v16 v17 (6 : Int32)).bind fun M18 => (gI 12 57 M18 a0).bind fun v19 => (pI 12 57 M18 a0 (v19 + (1 : Int32))).bind fun M20 => some (.inl M20)) fun j21 => if v10 = (6 : Int32) then (rcv 12 s7 a0 (F_X12_fail n s7 a0 (2 : Int32))).bind fun M24 => j21 M24 else j21 s7) n s3.2).bind fun (e7 : AM) => (rcv 12 e7 a0 (F_X12_unit n e7 a0)).bind fun M26 => (gI 12 13 M26 a0).bind fun v27 => if v27 ≤ 0 then (iter (fun (s29 : AM) => (rcv 12 s29 a0 (F_X12_is n s29 a0 (7 : Int32))).bind fun v30 => if v30 = 0 then some (.inr s29) else (gI 12 12 s29 a0).bind fun v32 => if v32 ≤ v2 then some (.inr s29) else (rcv 12 s29 a0 (F_X12_comesOut n s29 a0 (0 : Int32))).bind fun M35 => (gI 12 57 M35 a0).bind fun v36 => (pI 12 57 M35 a0 (v36 - (1 : Int32))).bind fun M37 => (gI 12 12 M37 a0).bind fun v38 => (pI 12 12 M37 a0 (v38 - (1 : Int32))).bind fun M39 => (rcv 12 M39 a0 (F_X12_goesOn n M39 a0)).bind fun M41 => some (.inl M41)) n M26).bind fun (e29 : AM) => (rcv 12 e29 a0 (F_X12_is n e29 a0 (8 : Int32))).bind fun v42 => jn (fun (u43 : Int32) => if u43 = 0 then (gI 12 12 e29 a0).bind fun v45 => jn (fun (M46 : AM) => (rcv 12 M46 a0 (F_X12_comesOut n M46 a0 (0 : Int32))).bind fun M48 => some (.inr (.inr M48))) fun j49 => if v45 ≤ v2 then j49 e29 else (rcv 12 e29 a0 (F_X12_fail n e29 a0 (1 : Int32))).bind fun M52 => j49 M52 else (rcv 12 e29 a0 (F_X12_is n e29 a0 (10 : Int32))).bind fun v53 => jn (fun (u54 : Int32) => (rcv 12 e29 a0 (F_X12_comesOut n e29 a0 u54)).bind fun M56 => (gR 12 56 M56 a0).bind fun v57 => (gI 12 57 M56 a0).bind fun v58 => (gR 12 5 M56 a0).bind fun v59 => (gI 12 11 M56 a0).bind fun v60 => (rdI M56 v59 v60).bind fun v61 => (wrI M56 v57 v58 v61).bind fun M62 => (gI 12 57 M62 a0).bind fun v63 => (pI 12 57 M62 a0 (v63 + (1 : Int32))).bind fun M64 => (rcv 12 M64 a0 (F_X12_goesOn n M64 a0)).bind fun M66 => some (.inl (u43, M66))) fun j67 => jn (j67 (1 : Int32)) fun j68 => if v53 = 0 then (rcv 12 e29 a0 (F_X12_is n e29 a0 (15 : Int32))).bind fun v70 => if v70 = 0 then j67 (0 : Int32) else j68 else j68) fun j72 => jn (j72 (1 : Int32)) fun j73 => if v42 = 0 then (rcv 12 e29 a0 (F_X12_is n e29 a0 (9 : Int32))).bind fun v75 => if v75 = 0 then (rcv 12 e29 a0 (F_X12_is n e29 a0 (10 : Int32))).bind fun v77 => if v77 = 0 then (rcv 12 e29 a0 (F_X12_is n e29 a0 (15 : Int32))).bind fun v79 => if v79 = 0 then j72 (0 : Int32) else j73 else j73 else j73 else j73 else some (.inr (.inr M26)) else some (.inr (.inl s3.2))) n ((1 : Int32), M1)).bind fun (z3 : (AM) ⊕ AM) => Sum.elim (fun (e3 : AM) => some e3) (fun (v : AM) => some v) z3
set_option maxRecDepth 100000 in
set_option maxHeartbeats 4000000 in
theorem C_X12_expression {n : Nat} {M : AM} {a0 : Nat} {o : AM} (h : F_X12_expression n M a0 = some o) : Cn yX12_expression cX12_expression 3 none 3 [.ref a0] M none o := by
  unfold F_X12_expression at h
  refine Cn.of rfl (Nat.le_of_ble_eq_true rfl) ?_
  show G yX12_expression cX12_expression 3 none 3 0 [(0, .ref a0)] [] M none o
  refine G.aload_n dX12_expression_0 rfl rfl ?_
  refine G.iconst (0 : Int32) dX12_expression_1 ki_0 ?_
  refine G.putI dX12_expression_2 fkX12_361 nf12_57 ft12_57 h (fun M1 h => ?_)
  refine G.aload_n dX12_expression_5 rfl rfl ?_
  refine G.getI dX12_expression_6 fkX12_287 fr12_12 h (fun v2 h => ?_)
  refine G.istore_n (lv' := [(1, .int v2), (0, .ref a0)]) dX12_expression_9 rfl (Nat.le_of_ble_eq_true rfl) rfl ?_
  refine G.iconst (1 : Int32) dX12_expression_10 ki_1 ?_
  refine G.istore_n (lv' := [(2, .int (1 : Int32)), (1, .int v2), (0, .ref a0)]) dX12_expression_11 rfl (Nat.le_of_ble_eq_true rfl) rfl ?_
  refine G.sub (lv' := [(0, .ref a0), (1, .int v2), (2, .int (1 : Int32))]) [2, 1, 0] rfl ?_
  refine loopE (fun (s3 : Int32 × AM) => G yX12_expression cX12_expression 3 none 3 12 [(0, .ref a0), (1, .int v2), (2, .int s3.1)] [] s3.2 none o) (fun (z3 : (AM) ⊕ AM) => Sum.elim (fun (e3 : AM) => G yX12_expression cX12_expression 3 none 3 272 [] [] e3 none o) (fun (v : AM) => some v = some o) z3) h ?_ ?_
  · intro z3 h
    rcases z3 with e3 | v
    · have h := sum_inl h
      show G yX12_expression cX12_expression 3 none 3 272 [] [] e3 none o
      exact G.vretW dX12_expression_272 rfl h
    · have h := sum_inr h
      exact h
  · intro s3 x3 h K3
    show G yX12_expression cX12_expression 3 none 3 12 [(0, .ref a0), (1, .int v2), (2, .int s3.1)] [] s3.2 none o
    refine G.iload_n dX12_expression_12 rfl rfl ?_
    refine G.if_eq 272 dX12_expression_13 (by decide) h (fun c4 h => ?_) (fun c4 h => ?_)
    · refine G.sub (lv' := []) [] rfl ?_
      have h := leafR' h K3
      exact h
    · refine G.aload_n dX12_expression_16 rfl rfl ?_
      refine G.getI dX12_expression_17 fkX12_260 fr12_13 h (fun v5 h => ?_)
      refine G.if_ne 272 dX12_expression_20 (by decide) h (fun c6 h => ?_) (fun c6 h => ?_)
      · refine G.sub (lv' := [(0, .ref a0), (1, .int v2)]) [0, 1] rfl ?_
        refine loopE (fun (s7 : AM) => G yX12_expression cX12_expression 3 none 3 23 [(0, .ref a0), (1, .int v2)] [] s7 none o) (fun (e7 : AM) => G yX12_expression cX12_expression 3 none 3 84 [(0, .ref a0), (1, .int v2)] [] e7 none o) h ?_ ?_
        · intro e7 h
          show G yX12_expression cX12_expression 3 none 3 84 [(0, .ref a0), (1, .int v2)] [] e7 none o
          refine G.aload_n dX12_expression_84 rfl rfl ?_
          refine G.callVv (ci := 12) [] [] dX12_expression_85 lkX12_367 okX12_unit rfl (fun v hv => C_X12_unit hv) (Nat.le_of_ble_eq_true rfl) rfl rfl (Nat.le_of_ble_eq_true rfl) h (fun M26 h => ?_)
          refine G.aload_n dX12_expression_88 rfl rfl ?_
          refine G.getI dX12_expression_89 fkX12_260 fr12_13 h (fun v27 h => ?_)
          refine G.if_le 96 dX12_expression_92 (by decide) h (fun c28 h => ?_) (fun c28 h => ?_)
          · refine G.sub (lv' := [(0, .ref a0), (1, .int v2)]) [0, 1] rfl ?_
            refine loopE (fun (s29 : AM) => G yX12_expression cX12_expression 3 none 3 96 [(0, .ref a0), (1, .int v2)] [] s29 none o) (fun (e29 : AM) => G yX12_expression cX12_expression 3 none 3 145 [(0, .ref a0), (1, .int v2)] [] e29 none o) h ?_ ?_
            · intro e29 h
              show G yX12_expression cX12_expression 3 none 3 145 [(0, .ref a0), (1, .int v2)] [] e29 none o
              refine G.aload_n dX12_expression_145 rfl rfl ?_
              refine G.bipush (8 : Int32) dX12_expression_146 kb_8 ?_
              refine G.callVi (ci := 12) [.int (8 : Int32)] [] dX12_expression_148 lkX12_278 okX12_is rfl (fun v hv => C_X12_is hv) (Nat.le_of_ble_eq_true rfl) rfl rfl (Nat.le_of_ble_eq_true rfl) h (fun v42 h => ?_)
              refine jn_elim (fun j72 => ∀ (u43 : Int32), j72 u43 = some x3 → G yX12_expression cX12_expression 3 none 3 186 [(0, .ref a0), (1, .int v2)] [.int u43] e29 none o) h ?_ ?_
              · intro u43 h
                refine G.istore_n (lv' := [(2, .int u43), (0, .ref a0), (1, .int v2)]) dX12_expression_186 rfl (Nat.le_of_ble_eq_true rfl) rfl ?_
                refine G.iload_n dX12_expression_187 rfl rfl ?_
                refine G.if_ne 210 dX12_expression_188 (by decide) h (fun c44 h => ?_) (fun c44 h => ?_)
                · refine G.aload_n dX12_expression_191 rfl rfl ?_
                  refine G.getI dX12_expression_192 fkX12_287 fr12_12 h (fun v45 h => ?_)
                  refine G.iload_n dX12_expression_195 rfl rfl ?_
                  refine jn_elim (fun j49 => ∀ (M46 : AM), j49 M46 = some x3 → G yX12_expression cX12_expression 3 none 3 204 [(0, .ref a0)] [] M46 none o) h ?_ ?_
                  · intro M46 h
                    refine G.aload_n dX12_expression_204 rfl rfl ?_
                    refine G.iconst (0 : Int32) dX12_expression_205 ki_0 ?_
                    refine G.callVv (ci := 12) [.int (0 : Int32)] [] dX12_expression_206 lkX12_370 okX12_comesOut rfl (fun v hv => C_X12_comesOut hv) (Nat.le_of_ble_eq_true rfl) rfl rfl (Nat.le_of_ble_eq_true rfl) h (fun M48 h => ?_)
                    have h := leafR' h K3
                    exact G.vretW dX12_expression_209 rfl h
                  · intro j49 Jj49 h
                    refine G.icmp_le 204 dX12_expression_196 (by decide) h (fun c50 h => ?_) (fun c50 h => ?_)
                    · refine G.sub (lv' := [(0, .ref a0)]) [1] rfl ?_
                      exact Jj49 _ h
                    · refine G.aload_n dX12_expression_199 rfl rfl ?_
                      refine G.iconst (1 : Int32) dX12_expression_200 ki_1 ?_
                      refine G.callVv (ci := 12) [.int (1 : Int32)] [] dX12_expression_201 lkX12_275 okX12_fail rfl (fun v hv => C_X12_fail hv) (Nat.le_of_ble_eq_true rfl) rfl rfl (Nat.le_of_ble_eq_true rfl) h (fun M52 h => ?_)
                      refine G.sub (lv' := [(0, .ref a0)]) [1] rfl ?_
                      exact Jj49 _ h
                · refine G.aload_n dX12_expression_210 rfl rfl ?_
                  refine G.aload_n dX12_expression_211 rfl rfl ?_
                  refine G.bipush (10 : Int32) dX12_expression_212 kb_10 ?_
                  refine G.callVi (ci := 12) [.int (10 : Int32)] [.ref a0] dX12_expression_214 lkX12_278 okX12_is rfl (fun v hv => C_X12_is hv) (Nat.le_of_ble_eq_true rfl) rfl rfl (Nat.le_of_ble_eq_true rfl) h (fun v53 h => ?_)
                  refine jn_elim (fun j67 => ∀ (u54 : Int32), j67 u54 = some x3 → G yX12_expression cX12_expression 3 none 3 234 [(0, .ref a0), (1, .int v2), (2, .int u43)] [.int u54, .ref a0] e29 none o) h ?_ ?_
                  · intro u54 h
                    refine G.callVv (ci := 12) [.int u54] [] dX12_expression_234 lkX12_370 okX12_comesOut rfl (fun v hv => C_X12_comesOut hv) (Nat.le_of_ble_eq_true rfl) rfl rfl (Nat.le_of_ble_eq_true rfl) h (fun M56 h => ?_)
                    refine G.aload_n dX12_expression_237 rfl rfl ?_
                    refine G.getR dX12_expression_238 fkX12_140 fr12_56 h (fun v57 h => ?_)
                    refine G.aload_n dX12_expression_241 rfl rfl ?_
                    refine G.getI dX12_expression_242 fkX12_361 fr12_57 h (fun v58 h => ?_)
                    refine G.aload_n dX12_expression_245 rfl rfl ?_
                    refine G.getR dX12_expression_246 fkX12_20 fr12_5 h (fun v59 h => ?_)
                    refine G.aload_n dX12_expression_249 rfl rfl ?_
                    refine G.getI dX12_expression_250 fkX12_263 fr12_11 h (fun v60 h => ?_)
                    refine G.iald dX12_expression_253 h (fun v61 h => ?_)
                    refine G.iast dX12_expression_254 h (fun M62 h => ?_)
                    refine G.aload_n dX12_expression_255 rfl rfl ?_
                    refine G.dup dX12_expression_256 rfl ?_
                    refine G.getI dX12_expression_257 fkX12_361 fr12_57 h (fun v63 h => ?_)
                    refine G.iconst (1 : Int32) dX12_expression_260 ki_1 ?_
                    refine G.iadd dX12_expression_261 ?_
                    refine G.putI dX12_expression_262 fkX12_361 nf12_57 ft12_57 h (fun M64 h => ?_)
                    refine G.aload_n dX12_expression_265 rfl rfl ?_
                    refine G.callVv (ci := 12) [] [] dX12_expression_266 lkX12_281 okX12_goesOn rfl (fun v hv => C_X12_goesOn hv) (Nat.le_of_ble_eq_true rfl) rfl rfl (Nat.le_of_ble_eq_true rfl) h (fun M66 h => ?_)
                    refine G.goto 12 dX12_expression_269 (by decide) ?_
                    refine G.sub (lv' := [(0, .ref a0), (1, .int v2), (2, .int u43)]) [0, 1, 2] rfl ?_
                    have h := leafL' h K3
                    exact h
                  · intro j67 Jj67 h
                    refine jn_elim (fun j68 => j68 = some x3 → G yX12_expression cX12_expression 3 none 3 229 [(0, .ref a0), (1, .int v2), (2, .int u43)] [.ref a0] e29 none o) h ?_ ?_
                    · intro h
                      refine G.iconst (1 : Int32) dX12_expression_229 ki_1 ?_
                      refine G.goto 234 dX12_expression_230 (by decide) ?_
                      refine G.sub (lv' := [(0, .ref a0), (1, .int v2), (2, .int u43)]) [0, 1, 2] rfl ?_
                      exact Jj67 _ h
                    · intro j68 Jj68 h
                      refine G.if_ne 229 dX12_expression_217 (by decide) h (fun c69 h => ?_) (fun c69 h => ?_)
                      · refine G.aload_n dX12_expression_220 rfl rfl ?_
                        refine G.bipush (15 : Int32) dX12_expression_221 kb_15 ?_
                        refine G.callVi (ci := 12) [.int (15 : Int32)] [.ref a0] dX12_expression_223 lkX12_278 okX12_is rfl (fun v hv => C_X12_is hv) (Nat.le_of_ble_eq_true rfl) rfl rfl (Nat.le_of_ble_eq_true rfl) h (fun v70 h => ?_)
                        refine G.if_eq 233 dX12_expression_226 (by decide) h (fun c71 h => ?_) (fun c71 h => ?_)
                        · refine G.iconst (0 : Int32) dX12_expression_233 ki_0 ?_
                          refine G.sub (lv' := [(0, .ref a0), (1, .int v2), (2, .int u43)]) [1, 2, 0] rfl ?_
                          exact Jj67 _ h
                        · refine G.sub (lv' := [(0, .ref a0), (1, .int v2), (2, .int u43)]) [1, 2, 0] rfl ?_
                          exact Jj68  h
                      · refine G.sub (lv' := [(0, .ref a0), (1, .int v2), (2, .int u43)]) [1, 2, 0] rfl ?_
                        exact Jj68  h
              · intro j72 Jj72 h
                refine jn_elim (fun j73 => j73 = some x3 → G yX12_expression cX12_expression 3 none 3 181 [(0, .ref a0), (1, .int v2)] [] e29 none o) h ?_ ?_
                · intro h
                  refine G.iconst (1 : Int32) dX12_expression_181 ki_1 ?_
                  refine G.goto 186 dX12_expression_182 (by decide) ?_
                  refine G.sub (lv' := [(0, .ref a0), (1, .int v2)]) [0, 1] rfl ?_
                  exact Jj72 _ h
                · intro j73 Jj73 h
                  refine G.if_ne 181 dX12_expression_151 (by decide) h (fun c74 h => ?_) (fun c74 h => ?_)
                  · refine G.aload_n dX12_expression_154 rfl rfl ?_
                    refine G.bipush (9 : Int32) dX12_expression_155 kb_9 ?_
                    refine G.callVi (ci := 12) [.int (9 : Int32)] [] dX12_expression_157 lkX12_278 okX12_is rfl (fun v hv => C_X12_is hv) (Nat.le_of_ble_eq_true rfl) rfl rfl (Nat.le_of_ble_eq_true rfl) h (fun v75 h => ?_)
                    refine G.if_ne 181 dX12_expression_160 (by decide) h (fun c76 h => ?_) (fun c76 h => ?_)
                    · refine G.aload_n dX12_expression_163 rfl rfl ?_
                      refine G.bipush (10 : Int32) dX12_expression_164 kb_10 ?_
                      refine G.callVi (ci := 12) [.int (10 : Int32)] [] dX12_expression_166 lkX12_278 okX12_is rfl (fun v hv => C_X12_is hv) (Nat.le_of_ble_eq_true rfl) rfl rfl (Nat.le_of_ble_eq_true rfl) h (fun v77 h => ?_)
                      refine G.if_ne 181 dX12_expression_169 (by decide) h (fun c78 h => ?_) (fun c78 h => ?_)
                      · refine G.aload_n dX12_expression_172 rfl rfl ?_
                        refine G.bipush (15 : Int32) dX12_expression_173 kb_15 ?_
                        refine G.callVi (ci := 12) [.int (15 : Int32)] [] dX12_expression_175 lkX12_278 okX12_is rfl (fun v hv => C_X12_is hv) (Nat.le_of_ble_eq_true rfl) rfl rfl (Nat.le_of_ble_eq_true rfl) h (fun v79 h => ?_)
                        refine G.if_eq 185 dX12_expression_178 (by decide) h (fun c80 h => ?_) (fun c80 h => ?_)
                        · refine G.iconst (0 : Int32) dX12_expression_185 ki_0 ?_
                          refine G.sub (lv' := [(0, .ref a0), (1, .int v2)]) [0, 1] rfl ?_
                          exact Jj72 _ h
                        · refine G.sub (lv' := [(0, .ref a0), (1, .int v2)]) [0, 1] rfl ?_
                          exact Jj73  h
                      · refine G.sub (lv' := [(0, .ref a0), (1, .int v2)]) [0, 1] rfl ?_
                        exact Jj73  h
                    · refine G.sub (lv' := [(0, .ref a0), (1, .int v2)]) [0, 1] rfl ?_
                      exact Jj73  h
                  · refine G.sub (lv' := [(0, .ref a0), (1, .int v2)]) [0, 1] rfl ?_
                    exact Jj73  h
            · intro s29 x29 h K29
              show G yX12_expression cX12_expression 3 none 3 96 [(0, .ref a0), (1, .int v2)] [] s29 none o
              refine G.aload_n dX12_expression_96 rfl rfl ?_
              refine G.bipush (7 : Int32) dX12_expression_97 kb_7 ?_
              refine G.callVi (ci := 12) [.int (7 : Int32)] [] dX12_expression_99 lkX12_278 okX12_is rfl (fun v hv => C_X12_is hv) (Nat.le_of_ble_eq_true rfl) rfl rfl (Nat.le_of_ble_eq_true rfl) h (fun v30 h => ?_)
              refine G.if_eq 145 dX12_expression_102 (by decide) h (fun c31 h => ?_) (fun c31 h => ?_)
              · refine G.sub (lv' := [(0, .ref a0), (1, .int v2)]) [0, 1] rfl ?_
                have h := leafR' h K29
                exact h
              · refine G.aload_n dX12_expression_105 rfl rfl ?_
                refine G.getI dX12_expression_106 fkX12_287 fr12_12 h (fun v32 h => ?_)
                refine G.iload_n dX12_expression_109 rfl rfl ?_
                refine G.icmp_le 145 dX12_expression_110 (by decide) h (fun c33 h => ?_) (fun c33 h => ?_)
                · refine G.sub (lv' := [(0, .ref a0), (1, .int v2)]) [0, 1] rfl ?_
                  have h := leafR' h K29
                  exact h
                · refine G.aload_n dX12_expression_113 rfl rfl ?_
                  refine G.iconst (0 : Int32) dX12_expression_114 ki_0 ?_
                  refine G.callVv (ci := 12) [.int (0 : Int32)] [] dX12_expression_115 lkX12_370 okX12_comesOut rfl (fun v hv => C_X12_comesOut hv) (Nat.le_of_ble_eq_true rfl) rfl rfl (Nat.le_of_ble_eq_true rfl) h (fun M35 h => ?_)
                  refine G.aload_n dX12_expression_118 rfl rfl ?_
                  refine G.dup dX12_expression_119 rfl ?_
                  refine G.getI dX12_expression_120 fkX12_361 fr12_57 h (fun v36 h => ?_)
                  refine G.iconst (1 : Int32) dX12_expression_123 ki_1 ?_
                  refine G.isub dX12_expression_124 ?_
                  refine G.putI dX12_expression_125 fkX12_361 nf12_57 ft12_57 h (fun M37 h => ?_)
                  refine G.aload_n dX12_expression_128 rfl rfl ?_
                  refine G.dup dX12_expression_129 rfl ?_
                  refine G.getI dX12_expression_130 fkX12_287 fr12_12 h (fun v38 h => ?_)
                  refine G.iconst (1 : Int32) dX12_expression_133 ki_1 ?_
                  refine G.isub dX12_expression_134 ?_
                  refine G.putI dX12_expression_135 fkX12_287 nf12_12 ft12_12 h (fun M39 h => ?_)
                  refine G.aload_n dX12_expression_138 rfl rfl ?_
                  refine G.callVv (ci := 12) [] [] dX12_expression_139 lkX12_281 okX12_goesOn rfl (fun v hv => C_X12_goesOn hv) (Nat.le_of_ble_eq_true rfl) rfl rfl (Nat.le_of_ble_eq_true rfl) h (fun M41 h => ?_)
                  refine G.goto 96 dX12_expression_142 (by decide) ?_
                  refine G.sub (lv' := [(0, .ref a0), (1, .int v2)]) [0, 1] rfl ?_
                  have h := leafL' h K29
                  exact h
          · have h := leafR' h K3
            exact G.vretW dX12_expression_95 rfl h
        · intro s7 x7 h K7
          show G yX12_expression cX12_expression 3 none 3 23 [(0, .ref a0), (1, .int v2)] [] s7 none o
          refine G.aload_n dX12_expression_23 rfl rfl ?_
          refine G.bipush (6 : Int32) dX12_expression_24 kb_6 ?_
          refine G.callVi (ci := 12) [.int (6 : Int32)] [] dX12_expression_26 lkX12_278 okX12_is rfl (fun v hv => C_X12_is hv) (Nat.le_of_ble_eq_true rfl) rfl rfl (Nat.le_of_ble_eq_true rfl) h (fun v8 h => ?_)
          refine G.if_eq 84 dX12_expression_29 (by decide) h (fun c9 h => ?_) (fun c9 h => ?_)
          · refine G.sub (lv' := [(0, .ref a0), (1, .int v2)]) [0, 1] rfl ?_
            have h := leafR' h K7
            exact h
          · refine G.aload_n dX12_expression_32 rfl rfl ?_
            refine G.getI dX12_expression_33 fkX12_287 fr12_12 h (fun v10 h => ?_)
            refine G.bipush (6 : Int32) dX12_expression_36 kb_6 ?_
            refine jn_elim (fun j21 => ∀ (M11 : AM), j21 M11 = some x7 → G yX12_expression cX12_expression 3 none 3 46 [(0, .ref a0), (1, .int v2)] [] M11 none o) h ?_ ?_
            · intro M11 h
              refine G.aload_n dX12_expression_46 rfl rfl ?_
              refine G.dup dX12_expression_47 rfl ?_
              refine G.getI dX12_expression_48 fkX12_287 fr12_12 h (fun v12 h => ?_)
              refine G.iconst (1 : Int32) dX12_expression_51 ki_1 ?_
              refine G.iadd dX12_expression_52 ?_
              refine G.putI dX12_expression_53 fkX12_287 nf12_12 ft12_12 h (fun M13 h => ?_)
              refine G.aload_n dX12_expression_56 rfl rfl ?_
              refine G.callVv (ci := 12) [] [] dX12_expression_57 lkX12_281 okX12_goesOn rfl (fun v hv => C_X12_goesOn hv) (Nat.le_of_ble_eq_true rfl) rfl rfl (Nat.le_of_ble_eq_true rfl) h (fun M15 h => ?_)
              refine G.aload_n dX12_expression_60 rfl rfl ?_
              refine G.getR dX12_expression_61 fkX12_140 fr12_56 h (fun v16 h => ?_)
              refine G.aload_n dX12_expression_64 rfl rfl ?_
              refine G.getI dX12_expression_65 fkX12_361 fr12_57 h (fun v17 h => ?_)
              refine G.bipush (6 : Int32) dX12_expression_68 kb_6 ?_
              refine G.iast dX12_expression_70 h (fun M18 h => ?_)
              refine G.aload_n dX12_expression_71 rfl rfl ?_
              refine G.dup dX12_expression_72 rfl ?_
              refine G.getI dX12_expression_73 fkX12_361 fr12_57 h (fun v19 h => ?_)
              refine G.iconst (1 : Int32) dX12_expression_76 ki_1 ?_
              refine G.iadd dX12_expression_77 ?_
              refine G.putI dX12_expression_78 fkX12_361 nf12_57 ft12_57 h (fun M20 h => ?_)
              refine G.goto 23 dX12_expression_81 (by decide) ?_
              refine G.sub (lv' := [(0, .ref a0), (1, .int v2)]) [0, 1] rfl ?_
              have h := leafL' h K7
              exact h
            · intro j21 Jj21 h
              refine G.icmp_ne 46 dX12_expression_38 (by decide) h (fun c22 h => ?_) (fun c22 h => ?_)
              · refine G.aload_n dX12_expression_41 rfl rfl ?_
                refine G.iconst (2 : Int32) dX12_expression_42 ki_2 ?_
                refine G.callVv (ci := 12) [.int (2 : Int32)] [] dX12_expression_43 lkX12_275 okX12_fail rfl (fun v hv => C_X12_fail hv) (Nat.le_of_ble_eq_true rfl) rfl rfl (Nat.le_of_ble_eq_true rfl) h (fun M24 h => ?_)
                refine G.sub (lv' := [(0, .ref a0), (1, .int v2)]) [0, 1] rfl ?_
                exact Jj21 _ h
              · refine G.sub (lv' := [(0, .ref a0), (1, .int v2)]) [0, 1] rfl ?_
                exact Jj21 _ h
      · refine G.sub (lv' := []) [] rfl ?_
        have h := leafR' h K3
        exact h
-- OnlyUpwardModel.literal(Z)V
set_option maxRecDepth 100000 in
set_option maxHeartbeats 4000000 in
def F_X12_literal (n : Nat) (M : AM) (a0 : Nat) (a1 : Int32) : Option AM :=
  (iter (fun (s1 : Int32 × AM) => (rcv 12 s1.2 a0 (F_X12_is n s1.2 a0 (35 : Int32))).bind fun v2 => if v2 = 0 then some (.inr (s1.1, s1.2)) else jn (fun (u4 : Int32) => (rcv 12 s1.2 a0 (F_X12_goesOn n s1.2 a0)).bind fun M6 => some (.inl (u4, M6))) fun j7 => if s1.1 = 0 then j7 (1 : Int32) else j7 (0 : Int32)) n ((0 : Int32), M)).bind fun (e1 : Int32 × AM) => (gI 12 53 e1.2 a0).bind fun v9 => (rcv 12 e1.2 a0 (F_X12_expression n e1.2 a0)).bind fun M11 => (gI 12 13 M11 a0).bind fun v12 => jn (fun (u13 : Int32) => (gI 12 13 M11 a0).bind fun v14 => jn (fun (M15 : AM) => (rcv 12 M15 a0 (F_X12_goesOn n M15 a0)).bind fun M17 => (gI 12 53 M17 a0).bind fun v18 => (rcv 12 M17 a0 (F_X12_expression n M17 a0)).bind fun M20 => (gI 12 13 M20 a0).bind fun v21 => if v21 ≤ 0 then (gR 12 47 M20 a0).bind fun v23 => (gI 12 46 M20 a0).bind fun v24 => (wrI M20 v23 v24 u13).bind fun M25 => (gR 12 48 M25 a0).bind fun v26 => (gI 12 46 M25 a0).bind fun v27 => (wrZ M25 v26 v27 e1.1).bind fun M28 => (gR 12 49 M28 a0).bind fun v29 => (gI 12 46 M28 a0).bind fun v30 => (wrZ M28 v29 v30 a1).bind fun M31 => (gR 12 50 M31 a0).bind fun v32 => (gI 12 46 M31 a0).bind fun v33 => (wrI M31 v32 v33 v9).bind fun M34 => (gR 12 51 M34 a0).bind fun v35 => (gI 12 46 M34 a0).bind fun v36 => (wrI M34 v35 v36 v18).bind fun M37 => (gR 12 52 M37 a0).bind fun v38 => (gI 12 46 M37 a0).bind fun v39 => (gI 12 53 M37 a0).bind fun v40 => (wrI M37 v38 v39 v40).bind fun M41 => (gI 12 46 M41 a0).bind fun v42 => (pI 12 46 M41 a0 (v42 + (1 : Int32))).bind fun M43 => some M43 else some M20) fun j44 => if v14 = 0 then jn ((rcv 12 M11 a0 (F_X12_fail n M11 a0 (1 : Int32))).bind fun M47 => j44 M47) fun j48 => if u13 < 0 then j48 else if u13 ≤ (3 : Int32) then j44 M11 else j48 else j44 M11) fun j51 => if v12 ≤ 0 then (gR 12 5 M11 a0).bind fun v53 => (gI 12 11 M11 a0).bind fun v54 => (rdI M11 v53 v54).bind fun v55 => j51 (v55 - (11 : Int32)) else j51 (0 : Int32)
set_option maxRecDepth 100000 in
set_option maxHeartbeats 4000000 in
theorem C_X12_literal {n : Nat} {M : AM} {a0 : Nat} {a1 : Int32} {o : AM} (h : F_X12_literal n M a0 a1 = some o) : Cn yX12_literal cX12_literal 6 none 4 [.ref a0, .int a1] M none o := by
  unfold F_X12_literal at h
  refine Cn.of rfl (Nat.le_of_ble_eq_true rfl) ?_
  show G yX12_literal cX12_literal 6 none 4 0 [(0, .ref a0), (1, .int a1)] [] M none o
  refine G.iconst (0 : Int32) dX12_literal_0 ki_0 ?_
  refine G.istore_n (lv' := [(2, .int (0 : Int32)), (0, .ref a0), (1, .int a1)]) dX12_literal_1 rfl (Nat.le_of_ble_eq_true rfl) rfl ?_
  refine G.sub (lv' := [(0, .ref a0), (1, .int a1), (2, .int (0 : Int32))]) [1, 2, 0] rfl ?_
  refine loopE (fun (s1 : Int32 × AM) => G yX12_literal cX12_literal 6 none 4 2 [(0, .ref a0), (1, .int a1), (2, .int s1.1)] [] s1.2 none o) (fun (e1 : Int32 × AM) => G yX12_literal cX12_literal 6 none 4 28 [(0, .ref a0), (1, .int a1), (2, .int e1.1)] [] e1.2 none o) h ?_ ?_
  · intro e1 h
    show G yX12_literal cX12_literal 6 none 4 28 [(0, .ref a0), (1, .int a1), (2, .int e1.1)] [] e1.2 none o
    refine G.aload_n dX12_literal_28 rfl rfl ?_
    refine G.getI dX12_literal_29 fkX12_302 fr12_53 h (fun v9 h => ?_)
    refine G.istore_n (lv' := [(3, .int v9), (0, .ref a0), (1, .int a1), (2, .int e1.1)]) dX12_literal_32 rfl (Nat.le_of_ble_eq_true rfl) rfl ?_
    refine G.aload_n dX12_literal_33 rfl rfl ?_
    refine G.callVv (ci := 12) [] [] dX12_literal_34 lkX12_358 okX12_expression rfl (fun v hv => C_X12_expression hv) (Nat.le_of_ble_eq_true rfl) rfl rfl (Nat.le_of_ble_eq_true rfl) h (fun M11 h => ?_)
    refine G.aload_n dX12_literal_37 rfl rfl ?_
    refine G.getI dX12_literal_38 fkX12_260 fr12_13 h (fun v12 h => ?_)
    refine jn_elim (fun j51 => ∀ (u13 : Int32), j51 u13 = some o → G yX12_literal cX12_literal 6 none 4 60 [(0, .ref a0), (1, .int a1), (2, .int e1.1), (3, .int v9)] [.int u13] M11 none o) h ?_ ?_
    · intro u13 h
      refine G.istore (lv' := [(4, .int u13), (0, .ref a0), (1, .int a1), (2, .int e1.1), (3, .int v9)]) dX12_literal_60 (Nat.le_of_ble_eq_true rfl) rfl ?_
      refine G.aload_n dX12_literal_62 rfl rfl ?_
      refine G.getI dX12_literal_63 fkX12_260 fr12_13 h (fun v14 h => ?_)
      refine jn_elim (fun j44 => ∀ (M15 : AM), j44 M15 = some o → G yX12_literal cX12_literal 6 none 4 85 [(0, .ref a0), (1, .int a1), (2, .int e1.1), (3, .int v9), (4, .int u13)] [] M15 none o) h ?_ ?_
      · intro M15 h
        refine G.aload_n dX12_literal_85 rfl rfl ?_
        refine G.callVv (ci := 12) [] [] dX12_literal_86 lkX12_281 okX12_goesOn rfl (fun v hv => C_X12_goesOn hv) (Nat.le_of_ble_eq_true rfl) rfl rfl (Nat.le_of_ble_eq_true rfl) h (fun M17 h => ?_)
        refine G.aload_n dX12_literal_89 rfl rfl ?_
        refine G.getI dX12_literal_90 fkX12_302 fr12_53 h (fun v18 h => ?_)
        refine G.istore (lv' := [(5, .int v18), (0, .ref a0), (1, .int a1), (2, .int e1.1), (3, .int v9), (4, .int u13)]) dX12_literal_93 (Nat.le_of_ble_eq_true rfl) rfl ?_
        refine G.aload_n dX12_literal_95 rfl rfl ?_
        refine G.callVv (ci := 12) [] [] dX12_literal_96 lkX12_358 okX12_expression rfl (fun v hv => C_X12_expression hv) (Nat.le_of_ble_eq_true rfl) rfl rfl (Nat.le_of_ble_eq_true rfl) h (fun M20 h => ?_)
        refine G.aload_n dX12_literal_99 rfl rfl ?_
        refine G.getI dX12_literal_100 fkX12_260 fr12_13 h (fun v21 h => ?_)
        refine G.if_le 107 dX12_literal_103 (by decide) h (fun c22 h => ?_) (fun c22 h => ?_)
        · refine G.aload_n dX12_literal_107 rfl rfl ?_
          refine G.getR dX12_literal_108 fkX12_115 fr12_47 h (fun v23 h => ?_)
          refine G.aload_n dX12_literal_111 rfl rfl ?_
          refine G.getI dX12_literal_112 fkX12_299 fr12_46 h (fun v24 h => ?_)
          refine G.iload dX12_literal_115 rfl ?_
          refine G.iast dX12_literal_117 h (fun M25 h => ?_)
          refine G.aload_n dX12_literal_118 rfl rfl ?_
          refine G.getR dX12_literal_119 fkX12_118 fr12_48 h (fun v26 h => ?_)
          refine G.aload_n dX12_literal_122 rfl rfl ?_
          refine G.getI dX12_literal_123 fkX12_299 fr12_46 h (fun v27 h => ?_)
          refine G.iload_n dX12_literal_126 rfl rfl ?_
          refine G.zast dX12_literal_127 h (fun M28 h => ?_)
          refine G.aload_n dX12_literal_128 rfl rfl ?_
          refine G.getR dX12_literal_129 fkX12_122 fr12_49 h (fun v29 h => ?_)
          refine G.aload_n dX12_literal_132 rfl rfl ?_
          refine G.getI dX12_literal_133 fkX12_299 fr12_46 h (fun v30 h => ?_)
          refine G.iload_n dX12_literal_136 rfl rfl ?_
          refine G.zast dX12_literal_137 h (fun M31 h => ?_)
          refine G.aload_n dX12_literal_138 rfl rfl ?_
          refine G.getR dX12_literal_139 fkX12_125 fr12_50 h (fun v32 h => ?_)
          refine G.aload_n dX12_literal_142 rfl rfl ?_
          refine G.getI dX12_literal_143 fkX12_299 fr12_46 h (fun v33 h => ?_)
          refine G.iload_n dX12_literal_146 rfl rfl ?_
          refine G.iast dX12_literal_147 h (fun M34 h => ?_)
          refine G.aload_n dX12_literal_148 rfl rfl ?_
          refine G.getR dX12_literal_149 fkX12_128 fr12_51 h (fun v35 h => ?_)
          refine G.aload_n dX12_literal_152 rfl rfl ?_
          refine G.getI dX12_literal_153 fkX12_299 fr12_46 h (fun v36 h => ?_)
          refine G.iload dX12_literal_156 rfl ?_
          refine G.iast dX12_literal_158 h (fun M37 h => ?_)
          refine G.aload_n dX12_literal_159 rfl rfl ?_
          refine G.getR dX12_literal_160 fkX12_131 fr12_52 h (fun v38 h => ?_)
          refine G.aload_n dX12_literal_163 rfl rfl ?_
          refine G.getI dX12_literal_164 fkX12_299 fr12_46 h (fun v39 h => ?_)
          refine G.aload_n dX12_literal_167 rfl rfl ?_
          refine G.getI dX12_literal_168 fkX12_302 fr12_53 h (fun v40 h => ?_)
          refine G.iast dX12_literal_171 h (fun M41 h => ?_)
          refine G.aload_n dX12_literal_172 rfl rfl ?_
          refine G.dup dX12_literal_173 rfl ?_
          refine G.getI dX12_literal_174 fkX12_299 fr12_46 h (fun v42 h => ?_)
          refine G.iconst (1 : Int32) dX12_literal_177 ki_1 ?_
          refine G.iadd dX12_literal_178 ?_
          refine G.putI dX12_literal_179 fkX12_299 nf12_46 ft12_46 h (fun M43 h => ?_)
          exact G.vretW dX12_literal_182 rfl h
        · exact G.vretW dX12_literal_106 rfl h
      · intro j44 Jj44 h
        refine G.if_ne 85 dX12_literal_66 (by decide) h (fun c45 h => ?_) (fun c45 h => ?_)
        · refine G.iload dX12_literal_69 rfl ?_
          refine jn_elim (fun j48 => j48 = some o → G yX12_literal cX12_literal 6 none 4 80 [(0, .ref a0), (1, .int a1), (2, .int e1.1), (3, .int v9), (4, .int u13)] [] M11 none o) h ?_ ?_
          · intro h
            refine G.aload_n dX12_literal_80 rfl rfl ?_
            refine G.iconst (1 : Int32) dX12_literal_81 ki_1 ?_
            refine G.callVv (ci := 12) [.int (1 : Int32)] [] dX12_literal_82 lkX12_275 okX12_fail rfl (fun v hv => C_X12_fail hv) (Nat.le_of_ble_eq_true rfl) rfl rfl (Nat.le_of_ble_eq_true rfl) h (fun M47 h => ?_)
            refine G.sub (lv' := [(0, .ref a0), (1, .int a1), (2, .int e1.1), (3, .int v9), (4, .int u13)]) [0, 1, 2, 3, 4] rfl ?_
            exact Jj44 _ h
          · intro j48 Jj48 h
            refine G.if_lt 80 dX12_literal_71 (by decide) h (fun c49 h => ?_) (fun c49 h => ?_)
            · refine G.sub (lv' := [(0, .ref a0), (1, .int a1), (2, .int e1.1), (3, .int v9), (4, .int u13)]) [1, 2, 3, 4, 0] rfl ?_
              exact Jj48  h
            · refine G.iload dX12_literal_74 rfl ?_
              refine G.iconst (3 : Int32) dX12_literal_76 ki_3 ?_
              refine G.icmp_le 85 dX12_literal_77 (by decide) h (fun c50 h => ?_) (fun c50 h => ?_)
              · refine G.sub (lv' := [(0, .ref a0), (1, .int a1), (2, .int e1.1), (3, .int v9), (4, .int u13)]) [1, 2, 3, 4, 0] rfl ?_
                exact Jj44 _ h
              · refine G.sub (lv' := [(0, .ref a0), (1, .int a1), (2, .int e1.1), (3, .int v9), (4, .int u13)]) [1, 2, 3, 4, 0] rfl ?_
                exact Jj48  h
        · refine G.sub (lv' := [(0, .ref a0), (1, .int a1), (2, .int e1.1), (3, .int v9), (4, .int u13)]) [1, 2, 3, 4, 0] rfl ?_
          exact Jj44 _ h
    · intro j51 Jj51 h
      refine G.if_le 48 dX12_literal_41 (by decide) h (fun c52 h => ?_) (fun c52 h => ?_)
      · refine G.aload_n dX12_literal_48 rfl rfl ?_
        refine G.getR dX12_literal_49 fkX12_20 fr12_5 h (fun v53 h => ?_)
        refine G.aload_n dX12_literal_52 rfl rfl ?_
        refine G.getI dX12_literal_53 fkX12_263 fr12_11 h (fun v54 h => ?_)
        refine G.iald dX12_literal_56 h (fun v55 h => ?_)
        refine G.bipush (11 : Int32) dX12_literal_57 kb_11 ?_
        refine G.isub dX12_literal_59 ?_
        refine G.sub (lv' := [(0, .ref a0), (1, .int a1), (2, .int e1.1), (3, .int v9)]) [1, 2, 3, 0] rfl ?_
        exact Jj51 _ h
      · refine G.iconst (0 : Int32) dX12_literal_44 ki_0 ?_
        refine G.goto 60 dX12_literal_45 (by decide) ?_
        refine G.sub (lv' := [(0, .ref a0), (1, .int a1), (2, .int e1.1), (3, .int v9)]) [1, 2, 3, 0] rfl ?_
        exact Jj51 _ h
  · intro s1 x1 h K1
    show G yX12_literal cX12_literal 6 none 4 2 [(0, .ref a0), (1, .int a1), (2, .int s1.1)] [] s1.2 none o
    refine G.aload_n dX12_literal_2 rfl rfl ?_
    refine G.bipush (35 : Int32) dX12_literal_3 kb_35 ?_
    refine G.callVi (ci := 12) [.int (35 : Int32)] [] dX12_literal_5 lkX12_278 okX12_is rfl (fun v hv => C_X12_is hv) (Nat.le_of_ble_eq_true rfl) rfl rfl (Nat.le_of_ble_eq_true rfl) h (fun v2 h => ?_)
    refine G.if_eq 28 dX12_literal_8 (by decide) h (fun c3 h => ?_) (fun c3 h => ?_)
    · refine G.sub (lv' := [(0, .ref a0), (1, .int a1), (2, .int s1.1)]) [0, 1, 2] rfl ?_
      have h := leafR' h K1
      exact h
    · refine G.iload_n dX12_literal_11 rfl rfl ?_
      refine jn_elim (fun j7 => ∀ (u4 : Int32), j7 u4 = some x1 → G yX12_literal cX12_literal 6 none 4 20 [(0, .ref a0), (1, .int a1)] [.int u4] s1.2 none o) h ?_ ?_
      · intro u4 h
        refine G.istore_n (lv' := [(2, .int u4), (0, .ref a0), (1, .int a1)]) dX12_literal_20 rfl (Nat.le_of_ble_eq_true rfl) rfl ?_
        refine G.aload_n dX12_literal_21 rfl rfl ?_
        refine G.callVv (ci := 12) [] [] dX12_literal_22 lkX12_281 okX12_goesOn rfl (fun v hv => C_X12_goesOn hv) (Nat.le_of_ble_eq_true rfl) rfl rfl (Nat.le_of_ble_eq_true rfl) h (fun M6 h => ?_)
        refine G.goto 2 dX12_literal_25 (by decide) ?_
        refine G.sub (lv' := [(0, .ref a0), (1, .int a1), (2, .int u4)]) [1, 2, 0] rfl ?_
        have h := leafL' h K1
        exact h
      · intro j7 Jj7 h
        refine G.if_ne 19 dX12_literal_12 (by decide) h (fun c8 h => ?_) (fun c8 h => ?_)
        · refine G.iconst (1 : Int32) dX12_literal_15 ki_1 ?_
          refine G.goto 20 dX12_literal_16 (by decide) ?_
          refine G.sub (lv' := [(0, .ref a0), (1, .int a1)]) [0, 1] rfl ?_
          exact Jj7 _ h
        · refine G.iconst (0 : Int32) dX12_literal_19 ki_0 ?_
          refine G.sub (lv' := [(0, .ref a0), (1, .int a1)]) [0, 1] rfl ?_
          exact Jj7 _ h
-- OnlyUpwardModel.tellLaw(I)V
set_option maxRecDepth 100000 in
set_option maxHeartbeats 4000000 in
def F_X12_tellLaw (n : Nat) (M : AM) (a0 : Nat) (a1 : Int32) : Option AM :=
  (gR 12 43 M a0).bind fun v1 => (gI 12 19 M a0).bind fun v2 => (rdI M v1 (((2 : Int32) * v2) + a1)).bind fun v3 => jn (fun (M4 : AM) => (gI 12 13 M4 a0).bind fun v5 => if v5 ≤ 0 then (gI 12 19 M4 a0).bind fun v7 => (gR 12 43 M4 a0).bind fun v8 => (gI 12 19 M4 a0).bind fun v9 => (rdI M4 v8 (((2 : Int32) * v9) + a1)).bind fun v10 => lets ((((8 : Int32) * v7) + ((4 : Int32) * a1)) + v10) fun (w11 : Int32) => (rcv 12 M4 a0 (F_X12_goesOn n M4 a0)).bind fun M13 => (gR 12 44 M13 a0).bind fun v14 => (gI 12 46 M13 a0).bind fun v15 => (wrI M13 v14 w11 v15).bind fun M16 => (rcv 12 M16 a0 (F_X12_must n M16 a0 (32 : Int32))).bind fun M18 => (gI 12 13 M18 a0).bind fun v19 => jn (fun (u20 : Int32) => (iter (fun (s21 : Int32 × Int32 × AM) => if s21.2.1 = 0 then some (.inr s21.2.2) else (gI 12 13 s21.2.2 a0).bind fun v23 => if v23 = 0 then (rcv 12 s21.2.2 a0 (F_X12_literal n s21.2.2 a0 s21.1)).bind fun M26 => (rcv 12 M26 a0 (F_X12_is n M26 a0 (33 : Int32))).bind fun v27 => jn (fun (u28 : Int32) => if u28 = 0 then some (.inl (v27, u28, M26)) else (rcv 12 M26 a0 (F_X12_goesOn n M26 a0)).bind fun M31 => some (.inl (v27, u28, M31))) fun j32 => jn (j32 (1 : Int32)) fun j33 => if v27 = 0 then (rcv 12 M26 a0 (F_X12_is n M26 a0 (34 : Int32))).bind fun v35 => if v35 = 0 then j32 (0 : Int32) else j33 else j33 else some (.inr s21.2.2)) n ((1 : Int32), u20, M18)).bind fun (e21 : AM) => (gR 12 45 e21 a0).bind fun v37 => (gI 12 46 e21 a0).bind fun v38 => (wrI e21 v37 w11 v38).bind fun M39 => (rcv 12 M39 a0 (F_X12_must n M39 a0 (4 : Int32))).bind fun M41 => (gI 12 13 M41 a0).bind fun v42 => if v42 = 0 then (gR 12 43 M41 a0).bind fun v44 => (gI 12 19 M41 a0).bind fun v45 => (rdI M41 v44 (((2 : Int32) * v45) + a1)).bind fun v46 => (wrI M41 v44 (((2 : Int32) * v45) + a1) (v46 + (1 : Int32))).bind fun M47 => some M47 else some M41) fun j48 => if v19 = 0 then j48 (1 : Int32) else j48 (0 : Int32) else some M4) fun j50 => if v3 = (4 : Int32) then (rcv 12 M a0 (F_X12_fail n M a0 (2 : Int32))).bind fun M53 => j50 M53 else j50 M
set_option maxRecDepth 100000 in
set_option maxHeartbeats 4000000 in
theorem C_X12_tellLaw {n : Nat} {M : AM} {a0 : Nat} {a1 : Int32} {o : AM} (h : F_X12_tellLaw n M a0 a1 = some o) : Cn yX12_tellLaw cX12_tellLaw 5 none 5 [.ref a0, .int a1] M none o := by
  unfold F_X12_tellLaw at h
  refine Cn.of rfl (Nat.le_of_ble_eq_true rfl) ?_
  show G yX12_tellLaw cX12_tellLaw 5 none 5 0 [(0, .ref a0), (1, .int a1)] [] M none o
  refine G.aload_n dX12_tellLaw_0 rfl rfl ?_
  refine G.getR dX12_tellLaw_1 fkX12_106 fr12_43 h (fun v1 h => ?_)
  refine G.iconst (2 : Int32) dX12_tellLaw_4 ki_2 ?_
  refine G.aload_n dX12_tellLaw_5 rfl rfl ?_
  refine G.getI dX12_tellLaw_6 fkX12_293 fr12_19 h (fun v2 h => ?_)
  refine G.imul dX12_tellLaw_9 ?_
  refine G.iload_n dX12_tellLaw_10 rfl rfl ?_
  refine G.iadd dX12_tellLaw_11 ?_
  refine G.iald dX12_tellLaw_12 h (fun v3 h => ?_)
  refine G.iconst (4 : Int32) dX12_tellLaw_13 ki_4 ?_
  refine jn_elim (fun j50 => ∀ (M4 : AM), j50 M4 = some o → G yX12_tellLaw cX12_tellLaw 5 none 5 22 [(0, .ref a0), (1, .int a1)] [] M4 none o) h ?_ ?_
  · intro M4 h
    refine G.aload_n dX12_tellLaw_22 rfl rfl ?_
    refine G.getI dX12_tellLaw_23 fkX12_260 fr12_13 h (fun v5 h => ?_)
    refine G.if_le 30 dX12_tellLaw_26 (by decide) h (fun c6 h => ?_) (fun c6 h => ?_)
    · refine G.bipush (8 : Int32) dX12_tellLaw_30 kb_8 ?_
      refine G.aload_n dX12_tellLaw_32 rfl rfl ?_
      refine G.getI dX12_tellLaw_33 fkX12_293 fr12_19 h (fun v7 h => ?_)
      refine G.imul dX12_tellLaw_36 ?_
      refine G.iconst (4 : Int32) dX12_tellLaw_37 ki_4 ?_
      refine G.iload_n dX12_tellLaw_38 rfl rfl ?_
      refine G.imul dX12_tellLaw_39 ?_
      refine G.iadd dX12_tellLaw_40 ?_
      refine G.aload_n dX12_tellLaw_41 rfl rfl ?_
      refine G.getR dX12_tellLaw_42 fkX12_106 fr12_43 h (fun v8 h => ?_)
      refine G.iconst (2 : Int32) dX12_tellLaw_45 ki_2 ?_
      refine G.aload_n dX12_tellLaw_46 rfl rfl ?_
      refine G.getI dX12_tellLaw_47 fkX12_293 fr12_19 h (fun v9 h => ?_)
      refine G.imul dX12_tellLaw_50 ?_
      refine G.iload_n dX12_tellLaw_51 rfl rfl ?_
      refine G.iadd dX12_tellLaw_52 ?_
      refine G.iald dX12_tellLaw_53 h (fun v10 h => ?_)
      refine G.iadd dX12_tellLaw_54 ?_
      refine lets_elim h (fun w11 ew11 h => ?_)
      rw [← ew11]
      refine G.istore_n (lv' := [(2, .int w11), (0, .ref a0), (1, .int a1)]) dX12_tellLaw_55 rfl (Nat.le_of_ble_eq_true rfl) rfl ?_
      refine G.aload_n dX12_tellLaw_56 rfl rfl ?_
      refine G.callVv (ci := 12) [] [] dX12_tellLaw_57 lkX12_281 okX12_goesOn rfl (fun v hv => C_X12_goesOn hv) (Nat.le_of_ble_eq_true rfl) rfl rfl (Nat.le_of_ble_eq_true rfl) h (fun M13 h => ?_)
      refine G.aload_n dX12_tellLaw_60 rfl rfl ?_
      refine G.getR dX12_tellLaw_61 fkX12_109 fr12_44 h (fun v14 h => ?_)
      refine G.iload_n dX12_tellLaw_64 rfl rfl ?_
      refine G.aload_n dX12_tellLaw_65 rfl rfl ?_
      refine G.getI dX12_tellLaw_66 fkX12_299 fr12_46 h (fun v15 h => ?_)
      refine G.iast dX12_tellLaw_69 h (fun M16 h => ?_)
      refine G.aload_n dX12_tellLaw_70 rfl rfl ?_
      refine G.bipush (32 : Int32) dX12_tellLaw_71 kb_32 ?_
      refine G.callVv (ci := 12) [.int (32 : Int32)] [] dX12_tellLaw_73 lkX12_314 okX12_must rfl (fun v hv => C_X12_must hv) (Nat.le_of_ble_eq_true rfl) rfl rfl (Nat.le_of_ble_eq_true rfl) h (fun M18 h => ?_)
      refine G.iconst (1 : Int32) dX12_tellLaw_76 ki_1 ?_
      refine G.istore_n (lv' := [(3, .int (1 : Int32)), (2, .int w11), (0, .ref a0), (1, .int a1)]) dX12_tellLaw_77 rfl (Nat.le_of_ble_eq_true rfl) rfl ?_
      refine G.aload_n dX12_tellLaw_78 rfl rfl ?_
      refine G.getI dX12_tellLaw_79 fkX12_260 fr12_13 h (fun v19 h => ?_)
      refine jn_elim (fun j48 => ∀ (u20 : Int32), j48 u20 = some o → G yX12_tellLaw cX12_tellLaw 5 none 5 90 [(0, .ref a0), (1, .int a1), (2, .int w11), (3, .int (1 : Int32))] [.int u20] M18 none o) h ?_ ?_
      · intro u20 h
        refine G.istore (lv' := [(4, .int u20), (0, .ref a0), (1, .int a1), (2, .int w11), (3, .int (1 : Int32))]) dX12_tellLaw_90 (Nat.le_of_ble_eq_true rfl) rfl ?_
        refine G.sub (lv' := [(0, .ref a0), (1, .int a1), (2, .int w11), (3, .int (1 : Int32)), (4, .int u20)]) [1, 2, 3, 4, 0] rfl ?_
        refine loopE (fun (s21 : Int32 × Int32 × AM) => G yX12_tellLaw cX12_tellLaw 5 none 5 92 [(0, .ref a0), (1, .int a1), (2, .int w11), (3, .int s21.1), (4, .int s21.2.1)] [] s21.2.2 none o) (fun (e21 : AM) => G yX12_tellLaw cX12_tellLaw 5 none 5 148 [(0, .ref a0), (1, .int a1), (2, .int w11)] [] e21 none o) h ?_ ?_
        · intro e21 h
          show G yX12_tellLaw cX12_tellLaw 5 none 5 148 [(0, .ref a0), (1, .int a1), (2, .int w11)] [] e21 none o
          refine G.aload_n dX12_tellLaw_148 rfl rfl ?_
          refine G.getR dX12_tellLaw_149 fkX12_112 fr12_45 h (fun v37 h => ?_)
          refine G.iload_n dX12_tellLaw_152 rfl rfl ?_
          refine G.aload_n dX12_tellLaw_153 rfl rfl ?_
          refine G.getI dX12_tellLaw_154 fkX12_299 fr12_46 h (fun v38 h => ?_)
          refine G.iast dX12_tellLaw_157 h (fun M39 h => ?_)
          refine G.aload_n dX12_tellLaw_158 rfl rfl ?_
          refine G.iconst (4 : Int32) dX12_tellLaw_159 ki_4 ?_
          refine G.callVv (ci := 12) [.int (4 : Int32)] [] dX12_tellLaw_160 lkX12_314 okX12_must rfl (fun v hv => C_X12_must hv) (Nat.le_of_ble_eq_true rfl) rfl rfl (Nat.le_of_ble_eq_true rfl) h (fun M41 h => ?_)
          refine G.aload_n dX12_tellLaw_163 rfl rfl ?_
          refine G.getI dX12_tellLaw_164 fkX12_260 fr12_13 h (fun v42 h => ?_)
          refine G.if_ne 187 dX12_tellLaw_167 (by decide) h (fun c43 h => ?_) (fun c43 h => ?_)
          · refine G.aload_n dX12_tellLaw_170 rfl rfl ?_
            refine G.getR dX12_tellLaw_171 fkX12_106 fr12_43 h (fun v44 h => ?_)
            refine G.iconst (2 : Int32) dX12_tellLaw_174 ki_2 ?_
            refine G.aload_n dX12_tellLaw_175 rfl rfl ?_
            refine G.getI dX12_tellLaw_176 fkX12_293 fr12_19 h (fun v45 h => ?_)
            refine G.imul dX12_tellLaw_179 ?_
            refine G.iload_n dX12_tellLaw_180 rfl rfl ?_
            refine G.iadd dX12_tellLaw_181 ?_
            refine G.dup2 dX12_tellLaw_182 rfl rfl ?_
            refine G.iald dX12_tellLaw_183 h (fun v46 h => ?_)
            refine G.iconst (1 : Int32) dX12_tellLaw_184 ki_1 ?_
            refine G.iadd dX12_tellLaw_185 ?_
            refine G.iast dX12_tellLaw_186 h (fun M47 h => ?_)
            exact G.vretW dX12_tellLaw_187 rfl h
          · exact G.vretW dX12_tellLaw_187 rfl h
        · intro s21 x21 h K21
          show G yX12_tellLaw cX12_tellLaw 5 none 5 92 [(0, .ref a0), (1, .int a1), (2, .int w11), (3, .int s21.1), (4, .int s21.2.1)] [] s21.2.2 none o
          refine G.iload dX12_tellLaw_92 rfl ?_
          refine G.if_eq 148 dX12_tellLaw_94 (by decide) h (fun c22 h => ?_) (fun c22 h => ?_)
          · refine G.sub (lv' := [(0, .ref a0), (1, .int a1), (2, .int w11)]) [0, 1, 2] rfl ?_
            have h := leafR' h K21
            exact h
          · refine G.aload_n dX12_tellLaw_97 rfl rfl ?_
            refine G.getI dX12_tellLaw_98 fkX12_260 fr12_13 h (fun v23 h => ?_)
            refine G.if_ne 148 dX12_tellLaw_101 (by decide) h (fun c24 h => ?_) (fun c24 h => ?_)
            · refine G.aload_n dX12_tellLaw_104 rfl rfl ?_
              refine G.iload_n dX12_tellLaw_105 rfl rfl ?_
              refine G.callVv (ci := 12) [.int s21.1] [] dX12_tellLaw_106 lkX12_354 okX12_literal rfl (fun v hv => C_X12_literal hv) (Nat.le_of_ble_eq_true rfl) rfl rfl (Nat.le_of_ble_eq_true rfl) h (fun M26 h => ?_)
              refine G.aload_n dX12_tellLaw_109 rfl rfl ?_
              refine G.bipush (33 : Int32) dX12_tellLaw_110 kb_33 ?_
              refine G.callVi (ci := 12) [.int (33 : Int32)] [] dX12_tellLaw_112 lkX12_278 okX12_is rfl (fun v hv => C_X12_is hv) (Nat.le_of_ble_eq_true rfl) rfl rfl (Nat.le_of_ble_eq_true rfl) h (fun v27 h => ?_)
              refine G.istore_n (lv' := [(3, .int v27), (0, .ref a0), (1, .int a1), (2, .int w11), (4, .int s21.2.1)]) dX12_tellLaw_115 rfl (Nat.le_of_ble_eq_true rfl) rfl ?_
              refine G.iload_n dX12_tellLaw_116 rfl rfl ?_
              refine jn_elim (fun j32 => ∀ (u28 : Int32), j32 u28 = some x21 → G yX12_tellLaw cX12_tellLaw 5 none 5 134 [(0, .ref a0), (1, .int a1), (2, .int w11), (3, .int v27)] [.int u28] M26 none o) h ?_ ?_
              · intro u28 h
                refine G.istore (lv' := [(4, .int u28), (0, .ref a0), (1, .int a1), (2, .int w11), (3, .int v27)]) dX12_tellLaw_134 (Nat.le_of_ble_eq_true rfl) rfl ?_
                refine G.iload dX12_tellLaw_136 rfl ?_
                refine G.if_eq 92 dX12_tellLaw_138 (by decide) h (fun c29 h => ?_) (fun c29 h => ?_)
                · refine G.sub (lv' := [(0, .ref a0), (1, .int a1), (2, .int w11), (3, .int v27), (4, .int u28)]) [1, 2, 3, 4, 0] rfl ?_
                  have h := leafL' h K21
                  exact h
                · refine G.aload_n dX12_tellLaw_141 rfl rfl ?_
                  refine G.callVv (ci := 12) [] [] dX12_tellLaw_142 lkX12_281 okX12_goesOn rfl (fun v hv => C_X12_goesOn hv) (Nat.le_of_ble_eq_true rfl) rfl rfl (Nat.le_of_ble_eq_true rfl) h (fun M31 h => ?_)
                  refine G.goto 92 dX12_tellLaw_145 (by decide) ?_
                  refine G.sub (lv' := [(0, .ref a0), (1, .int a1), (2, .int w11), (3, .int v27), (4, .int u28)]) [1, 2, 3, 4, 0] rfl ?_
                  have h := leafL' h K21
                  exact h
              · intro j32 Jj32 h
                refine jn_elim (fun j33 => j33 = some x21 → G yX12_tellLaw cX12_tellLaw 5 none 5 129 [(0, .ref a0), (1, .int a1), (2, .int w11), (3, .int v27)] [] M26 none o) h ?_ ?_
                · intro h
                  refine G.iconst (1 : Int32) dX12_tellLaw_129 ki_1 ?_
                  refine G.goto 134 dX12_tellLaw_130 (by decide) ?_
                  refine G.sub (lv' := [(0, .ref a0), (1, .int a1), (2, .int w11), (3, .int v27)]) [0, 1, 2, 3] rfl ?_
                  exact Jj32 _ h
                · intro j33 Jj33 h
                  refine G.if_ne 129 dX12_tellLaw_117 (by decide) h (fun c34 h => ?_) (fun c34 h => ?_)
                  · refine G.aload_n dX12_tellLaw_120 rfl rfl ?_
                    refine G.bipush (34 : Int32) dX12_tellLaw_121 kb_34 ?_
                    refine G.callVi (ci := 12) [.int (34 : Int32)] [] dX12_tellLaw_123 lkX12_278 okX12_is rfl (fun v hv => C_X12_is hv) (Nat.le_of_ble_eq_true rfl) rfl rfl (Nat.le_of_ble_eq_true rfl) h (fun v35 h => ?_)
                    refine G.if_eq 133 dX12_tellLaw_126 (by decide) h (fun c36 h => ?_) (fun c36 h => ?_)
                    · refine G.iconst (0 : Int32) dX12_tellLaw_133 ki_0 ?_
                      refine G.sub (lv' := [(0, .ref a0), (1, .int a1), (2, .int w11), (3, .int v27)]) [1, 2, 3, 0] rfl ?_
                      exact Jj32 _ h
                    · refine G.sub (lv' := [(0, .ref a0), (1, .int a1), (2, .int w11), (3, .int v27)]) [1, 2, 3, 0] rfl ?_
                      exact Jj33  h
                  · refine G.sub (lv' := [(0, .ref a0), (1, .int a1), (2, .int w11), (3, .int v27)]) [1, 2, 3, 0] rfl ?_
                    exact Jj33  h
            · refine G.sub (lv' := [(0, .ref a0), (1, .int a1), (2, .int w11)]) [0, 1, 2] rfl ?_
              have h := leafR' h K21
              exact h
      · intro j48 Jj48 h
        refine G.if_ne 89 dX12_tellLaw_82 (by decide) h (fun c49 h => ?_) (fun c49 h => ?_)
        · refine G.iconst (1 : Int32) dX12_tellLaw_85 ki_1 ?_
          refine G.goto 90 dX12_tellLaw_86 (by decide) ?_
          refine G.sub (lv' := [(0, .ref a0), (1, .int a1), (2, .int w11), (3, .int (1 : Int32))]) [2, 3, 1, 0] rfl ?_
          exact Jj48 _ h
        · refine G.iconst (0 : Int32) dX12_tellLaw_89 ki_0 ?_
          refine G.sub (lv' := [(0, .ref a0), (1, .int a1), (2, .int w11), (3, .int (1 : Int32))]) [2, 3, 1, 0] rfl ?_
          exact Jj48 _ h
    · exact G.vretW dX12_tellLaw_29 rfl h
  · intro j50 Jj50 h
    refine G.icmp_ne 22 dX12_tellLaw_14 (by decide) h (fun c51 h => ?_) (fun c51 h => ?_)
    · refine G.aload_n dX12_tellLaw_17 rfl rfl ?_
      refine G.iconst (2 : Int32) dX12_tellLaw_18 ki_2 ?_
      refine G.callVv (ci := 12) [.int (2 : Int32)] [] dX12_tellLaw_19 lkX12_275 okX12_fail rfl (fun v hv => C_X12_fail hv) (Nat.le_of_ble_eq_true rfl) rfl rfl (Nat.le_of_ble_eq_true rfl) h (fun M53 h => ?_)
      refine G.sub (lv' := [(0, .ref a0), (1, .int a1)]) [0, 1] rfl ?_
      exact Jj50 _ h
    · refine G.sub (lv' := [(0, .ref a0), (1, .int a1)]) [0, 1] rfl ?_
      exact Jj50 _ h
-- OnlyUpwardModel.tell()V
set_option maxRecDepth 100000 in
set_option maxHeartbeats 4000000 in
def F_X12_tell (n : Nat) (M : AM) (a0 : Nat) : Option AM :=
  (gR 12 5 M a0).bind fun v1 => (gI 12 11 M a0).bind fun v2 => (rdI M v1 v2).bind fun v3 => jn ((rcv 12 M a0 (F_X12_fail n M a0 (1 : Int32))).bind fun M5 => some M5) fun j6 => jn ((gR 12 5 M a0).bind fun v7 => (gI 12 11 M a0).bind fun v8 => (rdI M v7 v8).bind fun v9 => (rcv 12 M a0 (F_X12_tellLaw n M a0 (v9 - (30 : Int32)))).bind fun M11 => some M11) fun j12 => if v3 = (20 : Int32) then (rcv 12 M a0 (F_X12_next n M a0 (0 : Int32))).bind fun v14 => (rcv 12 v14.2 a0 (F_X12_named n v14.2 a0)).bind fun v15 => (rcv 12 v15.2 a0 (F_X12_comes n v15.2 a0 (0 : Int32))).bind fun M17 => (rcv 12 M17 a0 (F_X12_notes n M17 a0 v15.1 (0 : Int32) v14.1)).bind fun M19 => some M19 else if v3 = (21 : Int32) then (rcv 12 M a0 (F_X12_tellPerson n M a0)).bind fun M22 => some M22 else if v3 = (22 : Int32) then j6 else if v3 = (23 : Int32) then (rcv 12 M a0 (F_X12_next n M a0 (2 : Int32))).bind fun v25 => (rcv 12 v25.2 a0 (F_X12_named n v25.2 a0)).bind fun v26 => (rcv 12 v26.2 a0 (F_X12_bounded n v26.2 a0 (0 : Int32) (99 : Int32))).bind fun v27 => (rcv 12 v27.2 a0 (F_X12_comes n v27.2 a0 (2 : Int32))).bind fun M29 => (rcv 12 M29 a0 (F_X12_notes n M29 a0 v26.1 (2 : Int32) v25.1)).bind fun M31 => (gI 12 13 M31 a0).bind fun v32 => if v32 = 0 then (gR 12 28 M31 a0).bind fun v34 => (gI 12 19 M31 a0).bind fun v35 => (wrI M31 v34 (((6 : Int32) * v35) + v25.1) v27.1).bind fun M36 => some M36 else some M31 else if v3 = (24 : Int32) then (rcv 12 M a0 (F_X12_next n M a0 (3 : Int32))).bind fun v38 => (rcv 12 v38.2 a0 (F_X12_known n v38.2 a0 (0 : Int32))).bind fun v39 => (gI 12 11 v39.2 a0).bind fun v40 => (rcv 12 v39.2 a0 (F_X12_known n v39.2 a0 (0 : Int32))).bind fun v41 => (gI 12 13 v41.2 a0).bind fun v42 => jn (fun (M43 : AM) => (rcv 12 M43 a0 (F_X12_comes n M43 a0 (3 : Int32))).bind fun M45 => (gI 12 13 M45 a0).bind fun v46 => if v46 = 0 then (gR 12 29 M45 a0).bind fun v48 => (gI 12 19 M45 a0).bind fun v49 => (wrI M45 v48 (((8 : Int32) * v49) + v38.1) v39.1).bind fun M50 => (gR 12 30 M50 a0).bind fun v51 => (gI 12 19 M50 a0).bind fun v52 => (wrI M50 v51 (((8 : Int32) * v52) + v38.1) v41.1).bind fun M53 => some M53 else some M45) fun j54 => if v42 = 0 then if v39.1 = (-1 : Int32) then j54 v41.2 else if v39.1 = v41.1 then (rcv 12 v41.2 a0 (F_X12_wrong n v41.2 a0 (5 : Int32) v40)).bind fun M59 => j54 M59 else j54 v41.2 else j54 v41.2 else if v3 = (25 : Int32) then (rcv 12 M a0 (F_X12_tellStay n M a0)).bind fun M62 => some M62 else if v3 = (26 : Int32) then (rcv 12 M a0 (F_X12_next n M a0 (5 : Int32))).bind fun v64 => (rcv 12 v64.2 a0 (F_X12_known n v64.2 a0 (1 : Int32))).bind fun v65 => (rcv 12 v65.2 a0 (F_X12_known n v65.2 a0 (2 : Int32))).bind fun v66 => (rcv 12 v66.2 a0 (F_X12_comes n v66.2 a0 (5 : Int32))).bind fun M68 => (gI 12 13 M68 a0).bind fun v69 => if v69 = 0 then (gR 12 35 M68 a0).bind fun v71 => (gI 12 19 M68 a0).bind fun v72 => (wrI M68 v71 (((12 : Int32) * v72) + v64.1) v65.1).bind fun M73 => (gR 12 36 M73 a0).bind fun v74 => (gI 12 19 M73 a0).bind fun v75 => (wrI M73 v74 (((12 : Int32) * v75) + v64.1) v66.1).bind fun M76 => some M76 else some M68 else if v3 = (27 : Int32) then (rcv 12 M a0 (F_X12_next n M a0 (6 : Int32))).bind fun v78 => (rcv 12 v78.2 a0 (F_X12_known n v78.2 a0 (1 : Int32))).bind fun v79 => (rcv 12 v79.2 a0 (F_X12_known n v79.2 a0 (2 : Int32))).bind fun v80 => (rcv 12 v80.2 a0 (F_X12_bounded n v80.2 a0 (0 : Int32) (23 : Int32))).bind fun v81 => (rcv 12 v81.2 a0 (F_X12_comes n v81.2 a0 (6 : Int32))).bind fun M83 => (gI 12 13 M83 a0).bind fun v84 => if v84 = 0 then (gR 12 37 M83 a0).bind fun v86 => (gI 12 19 M83 a0).bind fun v87 => (wrI M83 v86 (((12 : Int32) * v87) + v78.1) v79.1).bind fun M88 => (gR 12 38 M88 a0).bind fun v89 => (gI 12 19 M88 a0).bind fun v90 => (wrI M88 v89 (((12 : Int32) * v90) + v78.1) v80.1).bind fun M91 => (gR 12 39 M91 a0).bind fun v92 => (gI 12 19 M91 a0).bind fun v93 => (wrI M91 v92 (((12 : Int32) * v93) + v78.1) v81.1).bind fun M94 => some M94 else some M83 else if v3 = (28 : Int32) then (rcv 12 M a0 (F_X12_next n M a0 (7 : Int32))).bind fun v96 => (rcv 12 v96.2 a0 (F_X12_named n v96.2 a0)).bind fun v97 => (rcv 12 v97.2 a0 (F_X12_known n v97.2 a0 (2 : Int32))).bind fun v98 => (rcv 12 v98.2 a0 (F_X12_bounded n v98.2 a0 (1 : Int32) (99 : Int32))).bind fun v99 => (rcv 12 v99.2 a0 (F_X12_comes n v99.2 a0 (7 : Int32))).bind fun M101 => (rcv 12 M101 a0 (F_X12_notes n M101 a0 v97.1 (3 : Int32) v96.1)).bind fun M103 => (gI 12 13 M103 a0).bind fun v104 => if v104 = 0 then (gR 12 40 M103 a0).bind fun v106 => (gI 12 19 M103 a0).bind fun v107 => (wrI M103 v106 (((6 : Int32) * v107) + v96.1) v98.1).bind fun M108 => (gR 12 41 M108 a0).bind fun v109 => (gI 12 19 M108 a0).bind fun v110 => (wrI M108 v109 (((6 : Int32) * v110) + v96.1) v99.1).bind fun M111 => some M111 else some M103 else if v3 = (29 : Int32) then (gR 12 25 M a0).bind fun v113 => (gI 12 19 M a0).bind fun v114 => (rdI M v113 v114).bind fun v115 => jn (fun (M116 : AM) => (gI 12 13 M116 a0).bind fun v117 => if v117 = 0 then (rcv 12 M116 a0 (F_X12_tellTask n M116 a0)).bind fun M120 => some M120 else some M116) fun j121 => if v115 = (4 : Int32) then (rcv 12 M a0 (F_X12_fail n M a0 (2 : Int32))).bind fun M124 => j121 M124 else j121 M else if v3 = (30 : Int32) then j12 else if v3 = (31 : Int32) then j12 else j6
set_option maxRecDepth 100000 in
set_option maxHeartbeats 4000000 in
theorem C_X12_tell {n : Nat} {M : AM} {a0 : Nat} {o : AM} (h : F_X12_tell n M a0 = some o) : Cn yX12_tell cX12_tell 5 none 6 [.ref a0] M none o := by
  unfold F_X12_tell at h
  refine Cn.of rfl (Nat.le_of_ble_eq_true rfl) ?_
  show G yX12_tell cX12_tell 5 none 6 0 [(0, .ref a0)] [] M none o
  refine G.aload_n dX12_tell_0 rfl rfl ?_
  refine G.getR dX12_tell_1 fkX12_20 fr12_5 h (fun v1 h => ?_)
  refine G.aload_n dX12_tell_4 rfl rfl ?_
  refine G.getI dX12_tell_5 fkX12_263 fr12_11 h (fun v2 h => ?_)
  refine G.iald dX12_tell_8 h (fun v3 h => ?_)
  refine jn_elim (fun j6 => j6 = some o → G yX12_tell cX12_tell 5 none 6 547 [(0, .ref a0)] [] M none o) h ?_ ?_
  · intro h
    refine G.aload_n dX12_tell_547 rfl rfl ?_
    refine G.iconst (1 : Int32) dX12_tell_548 ki_1 ?_
    refine G.callVv (ci := 12) [.int (1 : Int32)] [] dX12_tell_549 lkX12_275 okX12_fail rfl (fun v hv => C_X12_fail hv) (Nat.le_of_ble_eq_true rfl) rfl rfl (Nat.le_of_ble_eq_true rfl) h (fun M5 h => ?_)
    exact G.vretW dX12_tell_552 rfl h
  · intro j6 Jj6 h
    refine jn_elim (fun j12 => j12 = some o → G yX12_tell cX12_tell 5 none 6 528 [(0, .ref a0)] [] M none o) h ?_ ?_
    · intro h
      refine G.aload_n dX12_tell_528 rfl rfl ?_
      refine G.aload_n dX12_tell_529 rfl rfl ?_
      refine G.getR dX12_tell_530 fkX12_20 fr12_5 h (fun v7 h => ?_)
      refine G.aload_n dX12_tell_533 rfl rfl ?_
      refine G.getI dX12_tell_534 fkX12_263 fr12_11 h (fun v8 h => ?_)
      refine G.iald dX12_tell_537 h (fun v9 h => ?_)
      refine G.bipush (30 : Int32) dX12_tell_538 kb_30 ?_
      refine G.isub dX12_tell_540 ?_
      refine G.callVv (ci := 12) [.int (v9 - (30 : Int32))] [] dX12_tell_541 lkX12_351 okX12_tellLaw rfl (fun v hv => C_X12_tellLaw hv) (Nat.le_of_ble_eq_true rfl) rfl rfl (Nat.le_of_ble_eq_true rfl) h (fun M11 h => ?_)
      refine G.goto 552 dX12_tell_544 (by decide) ?_
      exact G.vretW dX12_tell_552 rfl h
    · intro j12 Jj12 h
      refine G.sw h (fun c13 h => ?_) (fun c13 h => ?_)
      · refine G.tableIn 72 dX12_tell_9 (by rw [c13]; decide) (by rw [c13]; decide) (by rw [c13]; rfl) (by decide) ?_
        refine G.aload_n dX12_tell_72 rfl rfl ?_
        refine G.iconst (0 : Int32) dX12_tell_73 ki_0 ?_
        refine G.callVi (ci := 12) [.int (0 : Int32)] [] dX12_tell_74 lkX12_317 okX12_next rfl (fun v hv => C_X12_next hv) (Nat.le_of_ble_eq_true rfl) rfl rfl (Nat.le_of_ble_eq_true rfl) h (fun v14 h => ?_)
        refine G.istore_n (lv' := [(1, .int v14.1), (0, .ref a0)]) dX12_tell_77 rfl (Nat.le_of_ble_eq_true rfl) rfl ?_
        refine G.aload_n dX12_tell_78 rfl rfl ?_
        refine G.callVi (ci := 12) [] [] dX12_tell_79 lkX12_320 okX12_named rfl (fun v hv => C_X12_named hv) (Nat.le_of_ble_eq_true rfl) rfl rfl (Nat.le_of_ble_eq_true rfl) h (fun v15 h => ?_)
        refine G.istore_n (lv' := [(2, .int v15.1), (1, .int v14.1), (0, .ref a0)]) dX12_tell_82 rfl (Nat.le_of_ble_eq_true rfl) rfl ?_
        refine G.aload_n dX12_tell_83 rfl rfl ?_
        refine G.iconst (0 : Int32) dX12_tell_84 ki_0 ?_
        refine G.callVv (ci := 12) [.int (0 : Int32)] [] dX12_tell_85 lkX12_324 okX12_comes rfl (fun v hv => C_X12_comes hv) (Nat.le_of_ble_eq_true rfl) rfl rfl (Nat.le_of_ble_eq_true rfl) h (fun M17 h => ?_)
        refine G.aload_n dX12_tell_88 rfl rfl ?_
        refine G.iload_n dX12_tell_89 rfl rfl ?_
        refine G.iconst (0 : Int32) dX12_tell_90 ki_0 ?_
        refine G.iload_n dX12_tell_91 rfl rfl ?_
        refine G.callVv (ci := 12) [.int v15.1, .int (0 : Int32), .int v14.1] [] dX12_tell_92 lkX12_327 okX12_notes rfl (fun v hv => C_X12_notes hv) (Nat.le_of_ble_eq_true rfl) rfl rfl (Nat.le_of_ble_eq_true rfl) h (fun M19 h => ?_)
        refine G.goto 552 dX12_tell_95 (by decide) ?_
        exact G.vretW dX12_tell_552 rfl h
      · refine G.sw h (fun c20 h => ?_) (fun c20 h => ?_)
        · refine G.tableIn 98 dX12_tell_9 (by rw [c20]; decide) (by rw [c20]; decide) (by rw [c20]; rfl) (by decide) ?_
          refine G.aload_n dX12_tell_98 rfl rfl ?_
          refine G.callVv (ci := 12) [] [] dX12_tell_99 lkX12_331 okX12_tellPerson rfl (fun v hv => C_X12_tellPerson hv) (Nat.le_of_ble_eq_true rfl) rfl rfl (Nat.le_of_ble_eq_true rfl) h (fun M22 h => ?_)
          refine G.goto 552 dX12_tell_102 (by decide) ?_
          exact G.vretW dX12_tell_552 rfl h
        · refine G.sw h (fun c23 h => ?_) (fun c23 h => ?_)
          · refine G.tableIn 547 dX12_tell_9 (by rw [c23]; decide) (by rw [c23]; decide) (by rw [c23]; rfl) (by decide) ?_
            refine G.sub (lv' := [(0, .ref a0)]) [0] rfl ?_
            exact Jj6  h
          · refine G.sw h (fun c24 h => ?_) (fun c24 h => ?_)
            · refine G.tableIn 105 dX12_tell_9 (by rw [c24]; decide) (by rw [c24]; decide) (by rw [c24]; rfl) (by decide) ?_
              refine G.aload_n dX12_tell_105 rfl rfl ?_
              refine G.iconst (2 : Int32) dX12_tell_106 ki_2 ?_
              refine G.callVi (ci := 12) [.int (2 : Int32)] [] dX12_tell_107 lkX12_317 okX12_next rfl (fun v hv => C_X12_next hv) (Nat.le_of_ble_eq_true rfl) rfl rfl (Nat.le_of_ble_eq_true rfl) h (fun v25 h => ?_)
              refine G.istore_n (lv' := [(1, .int v25.1), (0, .ref a0)]) dX12_tell_110 rfl (Nat.le_of_ble_eq_true rfl) rfl ?_
              refine G.aload_n dX12_tell_111 rfl rfl ?_
              refine G.callVi (ci := 12) [] [] dX12_tell_112 lkX12_320 okX12_named rfl (fun v hv => C_X12_named hv) (Nat.le_of_ble_eq_true rfl) rfl rfl (Nat.le_of_ble_eq_true rfl) h (fun v26 h => ?_)
              refine G.istore_n (lv' := [(2, .int v26.1), (1, .int v25.1), (0, .ref a0)]) dX12_tell_115 rfl (Nat.le_of_ble_eq_true rfl) rfl ?_
              refine G.aload_n dX12_tell_116 rfl rfl ?_
              refine G.iconst (0 : Int32) dX12_tell_117 ki_0 ?_
              refine G.bipush (99 : Int32) dX12_tell_118 kb_99 ?_
              refine G.callVi (ci := 12) [.int (0 : Int32), .int (99 : Int32)] [] dX12_tell_120 lkX12_334 okX12_bounded rfl (fun v hv => C_X12_bounded hv) (Nat.le_of_ble_eq_true rfl) rfl rfl (Nat.le_of_ble_eq_true rfl) h (fun v27 h => ?_)
              refine G.istore_n (lv' := [(3, .int v27.1), (2, .int v26.1), (1, .int v25.1), (0, .ref a0)]) dX12_tell_123 rfl (Nat.le_of_ble_eq_true rfl) rfl ?_
              refine G.aload_n dX12_tell_124 rfl rfl ?_
              refine G.iconst (2 : Int32) dX12_tell_125 ki_2 ?_
              refine G.callVv (ci := 12) [.int (2 : Int32)] [] dX12_tell_126 lkX12_324 okX12_comes rfl (fun v hv => C_X12_comes hv) (Nat.le_of_ble_eq_true rfl) rfl rfl (Nat.le_of_ble_eq_true rfl) h (fun M29 h => ?_)
              refine G.aload_n dX12_tell_129 rfl rfl ?_
              refine G.iload_n dX12_tell_130 rfl rfl ?_
              refine G.iconst (2 : Int32) dX12_tell_131 ki_2 ?_
              refine G.iload_n dX12_tell_132 rfl rfl ?_
              refine G.callVv (ci := 12) [.int v26.1, .int (2 : Int32), .int v25.1] [] dX12_tell_133 lkX12_327 okX12_notes rfl (fun v hv => C_X12_notes hv) (Nat.le_of_ble_eq_true rfl) rfl rfl (Nat.le_of_ble_eq_true rfl) h (fun M31 h => ?_)
              refine G.aload_n dX12_tell_136 rfl rfl ?_
              refine G.getI dX12_tell_137 fkX12_260 fr12_13 h (fun v32 h => ?_)
              refine G.if_ne 552 dX12_tell_140 (by decide) h (fun c33 h => ?_) (fun c33 h => ?_)
              · refine G.aload_n dX12_tell_143 rfl rfl ?_
                refine G.getR dX12_tell_144 fkX12_61 fr12_28 h (fun v34 h => ?_)
                refine G.bipush (6 : Int32) dX12_tell_147 kb_6 ?_
                refine G.aload_n dX12_tell_149 rfl rfl ?_
                refine G.getI dX12_tell_150 fkX12_293 fr12_19 h (fun v35 h => ?_)
                refine G.imul dX12_tell_153 ?_
                refine G.iload_n dX12_tell_154 rfl rfl ?_
                refine G.iadd dX12_tell_155 ?_
                refine G.iload_n dX12_tell_156 rfl rfl ?_
                refine G.iast dX12_tell_157 h (fun M36 h => ?_)
                refine G.goto 552 dX12_tell_158 (by decide) ?_
                exact G.vretW dX12_tell_552 rfl h
              · exact G.vretW dX12_tell_552 rfl h
            · refine G.sw h (fun c37 h => ?_) (fun c37 h => ?_)
              · refine G.tableIn 161 dX12_tell_9 (by rw [c37]; decide) (by rw [c37]; decide) (by rw [c37]; rfl) (by decide) ?_
                refine G.aload_n dX12_tell_161 rfl rfl ?_
                refine G.iconst (3 : Int32) dX12_tell_162 ki_3 ?_
                refine G.callVi (ci := 12) [.int (3 : Int32)] [] dX12_tell_163 lkX12_317 okX12_next rfl (fun v hv => C_X12_next hv) (Nat.le_of_ble_eq_true rfl) rfl rfl (Nat.le_of_ble_eq_true rfl) h (fun v38 h => ?_)
                refine G.istore_n (lv' := [(1, .int v38.1), (0, .ref a0)]) dX12_tell_166 rfl (Nat.le_of_ble_eq_true rfl) rfl ?_
                refine G.aload_n dX12_tell_167 rfl rfl ?_
                refine G.iconst (0 : Int32) dX12_tell_168 ki_0 ?_
                refine G.callVi (ci := 12) [.int (0 : Int32)] [] dX12_tell_169 lkX12_338 okX12_known rfl (fun v hv => C_X12_known hv) (Nat.le_of_ble_eq_true rfl) rfl rfl (Nat.le_of_ble_eq_true rfl) h (fun v39 h => ?_)
                refine G.istore_n (lv' := [(2, .int v39.1), (1, .int v38.1), (0, .ref a0)]) dX12_tell_172 rfl (Nat.le_of_ble_eq_true rfl) rfl ?_
                refine G.aload_n dX12_tell_173 rfl rfl ?_
                refine G.getI dX12_tell_174 fkX12_263 fr12_11 h (fun v40 h => ?_)
                refine G.istore_n (lv' := [(3, .int v40), (2, .int v39.1), (1, .int v38.1), (0, .ref a0)]) dX12_tell_177 rfl (Nat.le_of_ble_eq_true rfl) rfl ?_
                refine G.aload_n dX12_tell_178 rfl rfl ?_
                refine G.iconst (0 : Int32) dX12_tell_179 ki_0 ?_
                refine G.callVi (ci := 12) [.int (0 : Int32)] [] dX12_tell_180 lkX12_338 okX12_known rfl (fun v hv => C_X12_known hv) (Nat.le_of_ble_eq_true rfl) rfl rfl (Nat.le_of_ble_eq_true rfl) h (fun v41 h => ?_)
                refine G.istore (lv' := [(4, .int v41.1), (3, .int v40), (2, .int v39.1), (1, .int v38.1), (0, .ref a0)]) dX12_tell_183 (Nat.le_of_ble_eq_true rfl) rfl ?_
                refine G.aload_n dX12_tell_185 rfl rfl ?_
                refine G.getI dX12_tell_186 fkX12_260 fr12_13 h (fun v42 h => ?_)
                refine jn_elim (fun j54 => ∀ (M43 : AM), j54 M43 = some o → G yX12_tell cX12_tell 5 none 6 209 [(0, .ref a0), (1, .int v38.1), (2, .int v39.1), (4, .int v41.1)] [] M43 none o) h ?_ ?_
                · intro M43 h
                  refine G.aload_n dX12_tell_209 rfl rfl ?_
                  refine G.iconst (3 : Int32) dX12_tell_210 ki_3 ?_
                  refine G.callVv (ci := 12) [.int (3 : Int32)] [] dX12_tell_211 lkX12_324 okX12_comes rfl (fun v hv => C_X12_comes hv) (Nat.le_of_ble_eq_true rfl) rfl rfl (Nat.le_of_ble_eq_true rfl) h (fun M45 h => ?_)
                  refine G.aload_n dX12_tell_214 rfl rfl ?_
                  refine G.getI dX12_tell_215 fkX12_260 fr12_13 h (fun v46 h => ?_)
                  refine G.if_ne 552 dX12_tell_218 (by decide) h (fun c47 h => ?_) (fun c47 h => ?_)
                  · refine G.aload_n dX12_tell_221 rfl rfl ?_
                    refine G.getR dX12_tell_222 fkX12_64 fr12_29 h (fun v48 h => ?_)
                    refine G.bipush (8 : Int32) dX12_tell_225 kb_8 ?_
                    refine G.aload_n dX12_tell_227 rfl rfl ?_
                    refine G.getI dX12_tell_228 fkX12_293 fr12_19 h (fun v49 h => ?_)
                    refine G.imul dX12_tell_231 ?_
                    refine G.iload_n dX12_tell_232 rfl rfl ?_
                    refine G.iadd dX12_tell_233 ?_
                    refine G.iload_n dX12_tell_234 rfl rfl ?_
                    refine G.iast dX12_tell_235 h (fun M50 h => ?_)
                    refine G.aload_n dX12_tell_236 rfl rfl ?_
                    refine G.getR dX12_tell_237 fkX12_67 fr12_30 h (fun v51 h => ?_)
                    refine G.bipush (8 : Int32) dX12_tell_240 kb_8 ?_
                    refine G.aload_n dX12_tell_242 rfl rfl ?_
                    refine G.getI dX12_tell_243 fkX12_293 fr12_19 h (fun v52 h => ?_)
                    refine G.imul dX12_tell_246 ?_
                    refine G.iload_n dX12_tell_247 rfl rfl ?_
                    refine G.iadd dX12_tell_248 ?_
                    refine G.iload dX12_tell_249 rfl ?_
                    refine G.iast dX12_tell_251 h (fun M53 h => ?_)
                    refine G.goto 552 dX12_tell_252 (by decide) ?_
                    exact G.vretW dX12_tell_552 rfl h
                  · exact G.vretW dX12_tell_552 rfl h
                · intro j54 Jj54 h
                  refine G.if_ne 209 dX12_tell_189 (by decide) h (fun c55 h => ?_) (fun c55 h => ?_)
                  · refine G.iload_n dX12_tell_192 rfl rfl ?_
                    refine G.iconst (-1 : Int32) dX12_tell_193 ki_m1 ?_
                    refine G.icmp_eq 209 dX12_tell_194 (by decide) h (fun c56 h => ?_) (fun c56 h => ?_)
                    · refine G.sub (lv' := [(0, .ref a0), (1, .int v38.1), (2, .int v39.1), (4, .int v41.1)]) [4, 3, 2, 0] rfl ?_
                      exact Jj54 _ h
                    · refine G.iload_n dX12_tell_197 rfl rfl ?_
                      refine G.iload dX12_tell_198 rfl ?_
                      refine G.icmp_ne 209 dX12_tell_200 (by decide) h (fun c57 h => ?_) (fun c57 h => ?_)
                      · refine G.aload_n dX12_tell_203 rfl rfl ?_
                        refine G.iconst (5 : Int32) dX12_tell_204 ki_5 ?_
                        refine G.iload_n dX12_tell_205 rfl rfl ?_
                        refine G.callVv (ci := 12) [.int (5 : Int32), .int v40] [] dX12_tell_206 lkX12_341 okX12_wrong rfl (fun v hv => C_X12_wrong hv) (Nat.le_of_ble_eq_true rfl) rfl rfl (Nat.le_of_ble_eq_true rfl) h (fun M59 h => ?_)
                        refine G.sub (lv' := [(0, .ref a0), (1, .int v38.1), (2, .int v39.1), (4, .int v41.1)]) [4, 3, 2, 0] rfl ?_
                        exact Jj54 _ h
                      · refine G.sub (lv' := [(0, .ref a0), (1, .int v38.1), (2, .int v39.1), (4, .int v41.1)]) [4, 3, 2, 0] rfl ?_
                        exact Jj54 _ h
                  · refine G.sub (lv' := [(0, .ref a0), (1, .int v38.1), (2, .int v39.1), (4, .int v41.1)]) [4, 3, 2, 0] rfl ?_
                    exact Jj54 _ h
              · refine G.sw h (fun c60 h => ?_) (fun c60 h => ?_)
                · refine G.tableIn 255 dX12_tell_9 (by rw [c60]; decide) (by rw [c60]; decide) (by rw [c60]; rfl) (by decide) ?_
                  refine G.aload_n dX12_tell_255 rfl rfl ?_
                  refine G.callVv (ci := 12) [] [] dX12_tell_256 lkX12_345 okX12_tellStay rfl (fun v hv => C_X12_tellStay hv) (Nat.le_of_ble_eq_true rfl) rfl rfl (Nat.le_of_ble_eq_true rfl) h (fun M62 h => ?_)
                  refine G.goto 552 dX12_tell_259 (by decide) ?_
                  exact G.vretW dX12_tell_552 rfl h
                · refine G.sw h (fun c63 h => ?_) (fun c63 h => ?_)
                  · refine G.tableIn 262 dX12_tell_9 (by rw [c63]; decide) (by rw [c63]; decide) (by rw [c63]; rfl) (by decide) ?_
                    refine G.aload_n dX12_tell_262 rfl rfl ?_
                    refine G.iconst (5 : Int32) dX12_tell_263 ki_5 ?_
                    refine G.callVi (ci := 12) [.int (5 : Int32)] [] dX12_tell_264 lkX12_317 okX12_next rfl (fun v hv => C_X12_next hv) (Nat.le_of_ble_eq_true rfl) rfl rfl (Nat.le_of_ble_eq_true rfl) h (fun v64 h => ?_)
                    refine G.istore_n (lv' := [(1, .int v64.1), (0, .ref a0)]) dX12_tell_267 rfl (Nat.le_of_ble_eq_true rfl) rfl ?_
                    refine G.aload_n dX12_tell_268 rfl rfl ?_
                    refine G.iconst (1 : Int32) dX12_tell_269 ki_1 ?_
                    refine G.callVi (ci := 12) [.int (1 : Int32)] [] dX12_tell_270 lkX12_338 okX12_known rfl (fun v hv => C_X12_known hv) (Nat.le_of_ble_eq_true rfl) rfl rfl (Nat.le_of_ble_eq_true rfl) h (fun v65 h => ?_)
                    refine G.istore_n (lv' := [(2, .int v65.1), (1, .int v64.1), (0, .ref a0)]) dX12_tell_273 rfl (Nat.le_of_ble_eq_true rfl) rfl ?_
                    refine G.aload_n dX12_tell_274 rfl rfl ?_
                    refine G.iconst (2 : Int32) dX12_tell_275 ki_2 ?_
                    refine G.callVi (ci := 12) [.int (2 : Int32)] [] dX12_tell_276 lkX12_338 okX12_known rfl (fun v hv => C_X12_known hv) (Nat.le_of_ble_eq_true rfl) rfl rfl (Nat.le_of_ble_eq_true rfl) h (fun v66 h => ?_)
                    refine G.istore_n (lv' := [(3, .int v66.1), (2, .int v65.1), (1, .int v64.1), (0, .ref a0)]) dX12_tell_279 rfl (Nat.le_of_ble_eq_true rfl) rfl ?_
                    refine G.aload_n dX12_tell_280 rfl rfl ?_
                    refine G.iconst (5 : Int32) dX12_tell_281 ki_5 ?_
                    refine G.callVv (ci := 12) [.int (5 : Int32)] [] dX12_tell_282 lkX12_324 okX12_comes rfl (fun v hv => C_X12_comes hv) (Nat.le_of_ble_eq_true rfl) rfl rfl (Nat.le_of_ble_eq_true rfl) h (fun M68 h => ?_)
                    refine G.aload_n dX12_tell_285 rfl rfl ?_
                    refine G.getI dX12_tell_286 fkX12_260 fr12_13 h (fun v69 h => ?_)
                    refine G.if_ne 552 dX12_tell_289 (by decide) h (fun c70 h => ?_) (fun c70 h => ?_)
                    · refine G.aload_n dX12_tell_292 rfl rfl ?_
                      refine G.getR dX12_tell_293 fkX12_82 fr12_35 h (fun v71 h => ?_)
                      refine G.bipush (12 : Int32) dX12_tell_296 kb_12 ?_
                      refine G.aload_n dX12_tell_298 rfl rfl ?_
                      refine G.getI dX12_tell_299 fkX12_293 fr12_19 h (fun v72 h => ?_)
                      refine G.imul dX12_tell_302 ?_
                      refine G.iload_n dX12_tell_303 rfl rfl ?_
                      refine G.iadd dX12_tell_304 ?_
                      refine G.iload_n dX12_tell_305 rfl rfl ?_
                      refine G.iast dX12_tell_306 h (fun M73 h => ?_)
                      refine G.aload_n dX12_tell_307 rfl rfl ?_
                      refine G.getR dX12_tell_308 fkX12_85 fr12_36 h (fun v74 h => ?_)
                      refine G.bipush (12 : Int32) dX12_tell_311 kb_12 ?_
                      refine G.aload_n dX12_tell_313 rfl rfl ?_
                      refine G.getI dX12_tell_314 fkX12_293 fr12_19 h (fun v75 h => ?_)
                      refine G.imul dX12_tell_317 ?_
                      refine G.iload_n dX12_tell_318 rfl rfl ?_
                      refine G.iadd dX12_tell_319 ?_
                      refine G.iload_n dX12_tell_320 rfl rfl ?_
                      refine G.iast dX12_tell_321 h (fun M76 h => ?_)
                      refine G.goto 552 dX12_tell_322 (by decide) ?_
                      exact G.vretW dX12_tell_552 rfl h
                    · exact G.vretW dX12_tell_552 rfl h
                  · refine G.sw h (fun c77 h => ?_) (fun c77 h => ?_)
                    · refine G.tableIn 325 dX12_tell_9 (by rw [c77]; decide) (by rw [c77]; decide) (by rw [c77]; rfl) (by decide) ?_
                      refine G.aload_n dX12_tell_325 rfl rfl ?_
                      refine G.bipush (6 : Int32) dX12_tell_326 kb_6 ?_
                      refine G.callVi (ci := 12) [.int (6 : Int32)] [] dX12_tell_328 lkX12_317 okX12_next rfl (fun v hv => C_X12_next hv) (Nat.le_of_ble_eq_true rfl) rfl rfl (Nat.le_of_ble_eq_true rfl) h (fun v78 h => ?_)
                      refine G.istore_n (lv' := [(1, .int v78.1), (0, .ref a0)]) dX12_tell_331 rfl (Nat.le_of_ble_eq_true rfl) rfl ?_
                      refine G.aload_n dX12_tell_332 rfl rfl ?_
                      refine G.iconst (1 : Int32) dX12_tell_333 ki_1 ?_
                      refine G.callVi (ci := 12) [.int (1 : Int32)] [] dX12_tell_334 lkX12_338 okX12_known rfl (fun v hv => C_X12_known hv) (Nat.le_of_ble_eq_true rfl) rfl rfl (Nat.le_of_ble_eq_true rfl) h (fun v79 h => ?_)
                      refine G.istore_n (lv' := [(2, .int v79.1), (1, .int v78.1), (0, .ref a0)]) dX12_tell_337 rfl (Nat.le_of_ble_eq_true rfl) rfl ?_
                      refine G.aload_n dX12_tell_338 rfl rfl ?_
                      refine G.iconst (2 : Int32) dX12_tell_339 ki_2 ?_
                      refine G.callVi (ci := 12) [.int (2 : Int32)] [] dX12_tell_340 lkX12_338 okX12_known rfl (fun v hv => C_X12_known hv) (Nat.le_of_ble_eq_true rfl) rfl rfl (Nat.le_of_ble_eq_true rfl) h (fun v80 h => ?_)
                      refine G.istore_n (lv' := [(3, .int v80.1), (2, .int v79.1), (1, .int v78.1), (0, .ref a0)]) dX12_tell_343 rfl (Nat.le_of_ble_eq_true rfl) rfl ?_
                      refine G.aload_n dX12_tell_344 rfl rfl ?_
                      refine G.iconst (0 : Int32) dX12_tell_345 ki_0 ?_
                      refine G.bipush (23 : Int32) dX12_tell_346 kb_23 ?_
                      refine G.callVi (ci := 12) [.int (0 : Int32), .int (23 : Int32)] [] dX12_tell_348 lkX12_334 okX12_bounded rfl (fun v hv => C_X12_bounded hv) (Nat.le_of_ble_eq_true rfl) rfl rfl (Nat.le_of_ble_eq_true rfl) h (fun v81 h => ?_)
                      refine G.istore (lv' := [(4, .int v81.1), (3, .int v80.1), (2, .int v79.1), (1, .int v78.1), (0, .ref a0)]) dX12_tell_351 (Nat.le_of_ble_eq_true rfl) rfl ?_
                      refine G.aload_n dX12_tell_353 rfl rfl ?_
                      refine G.bipush (6 : Int32) dX12_tell_354 kb_6 ?_
                      refine G.callVv (ci := 12) [.int (6 : Int32)] [] dX12_tell_356 lkX12_324 okX12_comes rfl (fun v hv => C_X12_comes hv) (Nat.le_of_ble_eq_true rfl) rfl rfl (Nat.le_of_ble_eq_true rfl) h (fun M83 h => ?_)
                      refine G.aload_n dX12_tell_359 rfl rfl ?_
                      refine G.getI dX12_tell_360 fkX12_260 fr12_13 h (fun v84 h => ?_)
                      refine G.if_ne 552 dX12_tell_363 (by decide) h (fun c85 h => ?_) (fun c85 h => ?_)
                      · refine G.aload_n dX12_tell_366 rfl rfl ?_
                        refine G.getR dX12_tell_367 fkX12_88 fr12_37 h (fun v86 h => ?_)
                        refine G.bipush (12 : Int32) dX12_tell_370 kb_12 ?_
                        refine G.aload_n dX12_tell_372 rfl rfl ?_
                        refine G.getI dX12_tell_373 fkX12_293 fr12_19 h (fun v87 h => ?_)
                        refine G.imul dX12_tell_376 ?_
                        refine G.iload_n dX12_tell_377 rfl rfl ?_
                        refine G.iadd dX12_tell_378 ?_
                        refine G.iload_n dX12_tell_379 rfl rfl ?_
                        refine G.iast dX12_tell_380 h (fun M88 h => ?_)
                        refine G.aload_n dX12_tell_381 rfl rfl ?_
                        refine G.getR dX12_tell_382 fkX12_91 fr12_38 h (fun v89 h => ?_)
                        refine G.bipush (12 : Int32) dX12_tell_385 kb_12 ?_
                        refine G.aload_n dX12_tell_387 rfl rfl ?_
                        refine G.getI dX12_tell_388 fkX12_293 fr12_19 h (fun v90 h => ?_)
                        refine G.imul dX12_tell_391 ?_
                        refine G.iload_n dX12_tell_392 rfl rfl ?_
                        refine G.iadd dX12_tell_393 ?_
                        refine G.iload_n dX12_tell_394 rfl rfl ?_
                        refine G.iast dX12_tell_395 h (fun M91 h => ?_)
                        refine G.aload_n dX12_tell_396 rfl rfl ?_
                        refine G.getR dX12_tell_397 fkX12_94 fr12_39 h (fun v92 h => ?_)
                        refine G.bipush (12 : Int32) dX12_tell_400 kb_12 ?_
                        refine G.aload_n dX12_tell_402 rfl rfl ?_
                        refine G.getI dX12_tell_403 fkX12_293 fr12_19 h (fun v93 h => ?_)
                        refine G.imul dX12_tell_406 ?_
                        refine G.iload_n dX12_tell_407 rfl rfl ?_
                        refine G.iadd dX12_tell_408 ?_
                        refine G.iload dX12_tell_409 rfl ?_
                        refine G.iast dX12_tell_411 h (fun M94 h => ?_)
                        refine G.goto 552 dX12_tell_412 (by decide) ?_
                        exact G.vretW dX12_tell_552 rfl h
                      · exact G.vretW dX12_tell_552 rfl h
                    · refine G.sw h (fun c95 h => ?_) (fun c95 h => ?_)
                      · refine G.tableIn 415 dX12_tell_9 (by rw [c95]; decide) (by rw [c95]; decide) (by rw [c95]; rfl) (by decide) ?_
                        refine G.aload_n dX12_tell_415 rfl rfl ?_
                        refine G.bipush (7 : Int32) dX12_tell_416 kb_7 ?_
                        refine G.callVi (ci := 12) [.int (7 : Int32)] [] dX12_tell_418 lkX12_317 okX12_next rfl (fun v hv => C_X12_next hv) (Nat.le_of_ble_eq_true rfl) rfl rfl (Nat.le_of_ble_eq_true rfl) h (fun v96 h => ?_)
                        refine G.istore_n (lv' := [(1, .int v96.1), (0, .ref a0)]) dX12_tell_421 rfl (Nat.le_of_ble_eq_true rfl) rfl ?_
                        refine G.aload_n dX12_tell_422 rfl rfl ?_
                        refine G.callVi (ci := 12) [] [] dX12_tell_423 lkX12_320 okX12_named rfl (fun v hv => C_X12_named hv) (Nat.le_of_ble_eq_true rfl) rfl rfl (Nat.le_of_ble_eq_true rfl) h (fun v97 h => ?_)
                        refine G.istore_n (lv' := [(2, .int v97.1), (1, .int v96.1), (0, .ref a0)]) dX12_tell_426 rfl (Nat.le_of_ble_eq_true rfl) rfl ?_
                        refine G.aload_n dX12_tell_427 rfl rfl ?_
                        refine G.iconst (2 : Int32) dX12_tell_428 ki_2 ?_
                        refine G.callVi (ci := 12) [.int (2 : Int32)] [] dX12_tell_429 lkX12_338 okX12_known rfl (fun v hv => C_X12_known hv) (Nat.le_of_ble_eq_true rfl) rfl rfl (Nat.le_of_ble_eq_true rfl) h (fun v98 h => ?_)
                        refine G.istore_n (lv' := [(3, .int v98.1), (2, .int v97.1), (1, .int v96.1), (0, .ref a0)]) dX12_tell_432 rfl (Nat.le_of_ble_eq_true rfl) rfl ?_
                        refine G.aload_n dX12_tell_433 rfl rfl ?_
                        refine G.iconst (1 : Int32) dX12_tell_434 ki_1 ?_
                        refine G.bipush (99 : Int32) dX12_tell_435 kb_99 ?_
                        refine G.callVi (ci := 12) [.int (1 : Int32), .int (99 : Int32)] [] dX12_tell_437 lkX12_334 okX12_bounded rfl (fun v hv => C_X12_bounded hv) (Nat.le_of_ble_eq_true rfl) rfl rfl (Nat.le_of_ble_eq_true rfl) h (fun v99 h => ?_)
                        refine G.istore (lv' := [(4, .int v99.1), (3, .int v98.1), (2, .int v97.1), (1, .int v96.1), (0, .ref a0)]) dX12_tell_440 (Nat.le_of_ble_eq_true rfl) rfl ?_
                        refine G.aload_n dX12_tell_442 rfl rfl ?_
                        refine G.bipush (7 : Int32) dX12_tell_443 kb_7 ?_
                        refine G.callVv (ci := 12) [.int (7 : Int32)] [] dX12_tell_445 lkX12_324 okX12_comes rfl (fun v hv => C_X12_comes hv) (Nat.le_of_ble_eq_true rfl) rfl rfl (Nat.le_of_ble_eq_true rfl) h (fun M101 h => ?_)
                        refine G.aload_n dX12_tell_448 rfl rfl ?_
                        refine G.iload_n dX12_tell_449 rfl rfl ?_
                        refine G.iconst (3 : Int32) dX12_tell_450 ki_3 ?_
                        refine G.iload_n dX12_tell_451 rfl rfl ?_
                        refine G.callVv (ci := 12) [.int v97.1, .int (3 : Int32), .int v96.1] [] dX12_tell_452 lkX12_327 okX12_notes rfl (fun v hv => C_X12_notes hv) (Nat.le_of_ble_eq_true rfl) rfl rfl (Nat.le_of_ble_eq_true rfl) h (fun M103 h => ?_)
                        refine G.aload_n dX12_tell_455 rfl rfl ?_
                        refine G.getI dX12_tell_456 fkX12_260 fr12_13 h (fun v104 h => ?_)
                        refine G.if_ne 552 dX12_tell_459 (by decide) h (fun c105 h => ?_) (fun c105 h => ?_)
                        · refine G.aload_n dX12_tell_462 rfl rfl ?_
                          refine G.getR dX12_tell_463 fkX12_97 fr12_40 h (fun v106 h => ?_)
                          refine G.bipush (6 : Int32) dX12_tell_466 kb_6 ?_
                          refine G.aload_n dX12_tell_468 rfl rfl ?_
                          refine G.getI dX12_tell_469 fkX12_293 fr12_19 h (fun v107 h => ?_)
                          refine G.imul dX12_tell_472 ?_
                          refine G.iload_n dX12_tell_473 rfl rfl ?_
                          refine G.iadd dX12_tell_474 ?_
                          refine G.iload_n dX12_tell_475 rfl rfl ?_
                          refine G.iast dX12_tell_476 h (fun M108 h => ?_)
                          refine G.aload_n dX12_tell_477 rfl rfl ?_
                          refine G.getR dX12_tell_478 fkX12_100 fr12_41 h (fun v109 h => ?_)
                          refine G.bipush (6 : Int32) dX12_tell_481 kb_6 ?_
                          refine G.aload_n dX12_tell_483 rfl rfl ?_
                          refine G.getI dX12_tell_484 fkX12_293 fr12_19 h (fun v110 h => ?_)
                          refine G.imul dX12_tell_487 ?_
                          refine G.iload_n dX12_tell_488 rfl rfl ?_
                          refine G.iadd dX12_tell_489 ?_
                          refine G.iload dX12_tell_490 rfl ?_
                          refine G.iast dX12_tell_492 h (fun M111 h => ?_)
                          refine G.goto 552 dX12_tell_493 (by decide) ?_
                          exact G.vretW dX12_tell_552 rfl h
                        · exact G.vretW dX12_tell_552 rfl h
                      · refine G.sw h (fun c112 h => ?_) (fun c112 h => ?_)
                        · refine G.tableIn 496 dX12_tell_9 (by rw [c112]; decide) (by rw [c112]; decide) (by rw [c112]; rfl) (by decide) ?_
                          refine G.aload_n dX12_tell_496 rfl rfl ?_
                          refine G.getR dX12_tell_497 fkX12_52 fr12_25 h (fun v113 h => ?_)
                          refine G.aload_n dX12_tell_500 rfl rfl ?_
                          refine G.getI dX12_tell_501 fkX12_293 fr12_19 h (fun v114 h => ?_)
                          refine G.iald dX12_tell_504 h (fun v115 h => ?_)
                          refine G.iconst (4 : Int32) dX12_tell_505 ki_4 ?_
                          refine jn_elim (fun j121 => ∀ (M116 : AM), j121 M116 = some o → G yX12_tell cX12_tell 5 none 6 514 [(0, .ref a0)] [] M116 none o) h ?_ ?_
                          · intro M116 h
                            refine G.aload_n dX12_tell_514 rfl rfl ?_
                            refine G.getI dX12_tell_515 fkX12_260 fr12_13 h (fun v117 h => ?_)
                            refine G.if_ne 552 dX12_tell_518 (by decide) h (fun c118 h => ?_) (fun c118 h => ?_)
                            · refine G.aload_n dX12_tell_521 rfl rfl ?_
                              refine G.callVv (ci := 12) [] [] dX12_tell_522 lkX12_348 okX12_tellTask rfl (fun v hv => C_X12_tellTask hv) (Nat.le_of_ble_eq_true rfl) rfl rfl (Nat.le_of_ble_eq_true rfl) h (fun M120 h => ?_)
                              refine G.goto 552 dX12_tell_525 (by decide) ?_
                              exact G.vretW dX12_tell_552 rfl h
                            · exact G.vretW dX12_tell_552 rfl h
                          · intro j121 Jj121 h
                            refine G.icmp_ne 514 dX12_tell_506 (by decide) h (fun c122 h => ?_) (fun c122 h => ?_)
                            · refine G.aload_n dX12_tell_509 rfl rfl ?_
                              refine G.iconst (2 : Int32) dX12_tell_510 ki_2 ?_
                              refine G.callVv (ci := 12) [.int (2 : Int32)] [] dX12_tell_511 lkX12_275 okX12_fail rfl (fun v hv => C_X12_fail hv) (Nat.le_of_ble_eq_true rfl) rfl rfl (Nat.le_of_ble_eq_true rfl) h (fun M124 h => ?_)
                              refine G.sub (lv' := [(0, .ref a0)]) [0] rfl ?_
                              exact Jj121 _ h
                            · refine G.sub (lv' := [(0, .ref a0)]) [0] rfl ?_
                              exact Jj121 _ h
                        · refine G.sw h (fun c125 h => ?_) (fun c125 h => ?_)
                          · refine G.tableIn 528 dX12_tell_9 (by rw [c125]; decide) (by rw [c125]; decide) (by rw [c125]; rfl) (by decide) ?_
                            refine G.sub (lv' := [(0, .ref a0)]) [0] rfl ?_
                            exact Jj12  h
                          · refine G.sw h (fun c126 h => ?_) (fun c126 h => ?_)
                            · refine G.tableIn 528 dX12_tell_9 (by rw [c126]; decide) (by rw [c126]; decide) (by rw [c126]; rfl) (by decide) ?_
                              refine G.sub (lv' := [(0, .ref a0)]) [0] rfl ?_
                              exact Jj12  h
                            · refine G.tableOut 547 dX12_tell_9 (sw_out (lo := 20) (hi := 31) (fun z127 g1 g2 ge => ?_)) (by decide) ?_
                              · have hz : z127 = 20 ∨ z127 = 21 ∨ z127 = 22 ∨ z127 = 23 ∨ z127 = 24 ∨ z127 = 25 ∨ z127 = 26 ∨ z127 = 27 ∨ z127 = 28 ∨ z127 = 29 ∨ z127 = 30 ∨ z127 = 31 := by omega
                                rcases hz with rfl | rfl | rfl | rfl | rfl | rfl | rfl | rfl | rfl | rfl | rfl | rfl
                                · exact c13 ge
                                · exact c20 ge
                                · exact c23 ge
                                · exact c24 ge
                                · exact c37 ge
                                · exact c60 ge
                                · exact c63 ge
                                · exact c77 ge
                                · exact c95 ge
                                · exact c112 ge
                                · exact c125 ge
                                · exact c126 ge
                              · refine G.sub (lv' := [(0, .ref a0)]) [0] rfl ?_
                                exact Jj6  h
