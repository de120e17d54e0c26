-- OnlyUpward$Cheapest.entryBy(LOnlyUpward$World;III)I
set_option maxRecDepth 100000 in
set_option maxHeartbeats 4000000 in
def E_X0_entryBy (n : Nat) (El : ST → Int32 → Int32 → Option (Int32 × ST)) (S : ST) (w : Nat) (a2 : Int32) (a3 : Int32) (a4 : Int32) : Option (Int32 × ST) :=
  (E_X10_placeOf n S w a4 a2).bind fun v1 => (E_X10_sayTo n S w a4 a2).bind fun v2 => (E_X10_hearers n S w v1 a2).bind fun v3 => jn (fun (u4 : Int32) (S5 : ST) => (E_X10_standers n S5 w v1 a2).bind fun v6 => (iter (fun (s7 : Int32 × Int32 × ST) => (rd (s7.2.2.1 (w + 1)) 11 (7 : Int32)).bind fun v8 => if v8 ≤ s7.2.1 then some (.inr (s7.1, s7.2.2)) else if (a3 ||| v6) = a3 then some (.inr (s7.1, s7.2.2)) else (rd (s7.2.2.1 (w + 10)) 6 s7.2.1).bind fun v11 => jn (fun (u12 : Int32) (S13 : ST) => some (.inl (u12, (s7.2.1 + (1 : Int32)), S13))) fun j14 => if v11 = (s7.2.2.1 90 1) then (El s7.2.2 (a2 + (1 : Int32)) (a3 ||| v6)).bind fun v16 => (rd (v16.2.1 (w + 11)) 6 s7.2.1).bind fun v17 => lets ((v16.1 + (v17 * (32 : Int32))) + (1 : Int32)) fun (w18 : Int32) => lets (mnI s7.1 ((((w18 * (2048 : Int32)) + (1000 : Int32)) + ((20 : Int32) * a4)) + s7.2.1)) fun (w19 : Int32) => j14 w19 v16.2 else j14 s7.1 s7.2.2) n (u4, (0 : Int32), S5)).bind fun (e7 : Int32 × ST) => some (e7.1, e7.2)) fun j20 => if v2 = 0 then j20 (1024002047 : Int32) S else if (a3 ||| v3) = a3 then j20 (1024002047 : Int32) S else (El S (a2 + (1 : Int32)) (a3 ||| v3)).bind fun v23 => (E_J6_numberOfTrailingZeros_0f7a4 n v23.2 v2).bind fun v24 => lets (mnI (1024002047 : Int32) (((((v23.1 + (32 : Int32)) + (1 : Int32)) * (2048 : Int32)) + ((20 : Int32) * a4)) + v24)) fun (w25 : Int32) => j20 w25 v23.2
set_option maxRecDepth 100000 in
set_option maxHeartbeats 4000000 in
theorem E_X0_entryBy_ok {n : Nat} (hn : 30000 ≤ n) {K : AK} {R : Nat → Nat → Option Nat} {S : ST} {w : Nat} {a2 : Int32} {a3 : Int32} {a4 : Int32} {tz : Nat} (hL : Lay K R tz 161) (hE : K[161]? = some (.inr (0, 24576))) (hw : LW K R w) {El : ST → Int32 → Int32 → Option (Int32 × ST)} {Fl : AM → Nat → Nat → Int32 → Int32 → Option (Int32 × AM)} (hFl : ∀ (S : ST) (a b : Int32) (v : Int32 × ST), El S a b = some v → Fl (mkM K R S) 90 w a b = some (v.1, mkM K R v.2)) {o : (Int32 × ST)} (h : E_X0_entryBy n El S w a2 a3 a4 = some o) : F_X0_entryBy n Fl (mkM K R S) 90 w a2 a3 a4 = some (o.1, mkM K R o.2) := by
  unfold E_X0_entryBy at h
  unfold F_X0_entryBy
  refine eCV (kW_0 hw) (k8W 0 hw) (fun _ hv => E_X10_placeOf_ok hn hL hw hv) h (fun v1 h => ?_)
  refine eCV (kW_0 hw) (k8W 0 hw) (fun _ hv => E_X10_sayTo_ok hn hL hw hv) h (fun v2 h => ?_)
  refine eCV (kW_0 hw) (k8W 0 hw) (fun _ hv => E_X10_hearers_ok hn hL hw hv) h (fun v3 h => ?_)
  refine eJN (fun j20 fj20 => ∀ (u4 : Int32) (S5 : ST), j20 u4 S5 = some o → fj20 u4 (mkM K R S5) = some (o.1, mkM K R o.2)) h ?_ ?_
  · intro u4 S5 h
    refine eCV (kW_0 hw) (k8W 0 hw) (fun _ hv => E_X10_standers_ok hn hL hw hv) h (fun v6 h => ?_)
    refine eLP (fun (s7 : Int32 × Int32 × ST) => (s7.1, s7.2.1, mkM K R s7.2.2)) (fun (e7 : Int32 × ST) => (e7.1, mkM K R e7.2)) h rfl ?_ ?_
    · intro s7 x7 h
      refine eGR (kW_0 hw) (k8W 0 hw) (rW_0_0 hw) ?_
      refine eRI (kW_1 hw) h (fun v8 h => ?_)
      refine eIF h (fun c9 h => ?_) (fun c9 h => ?_)
      · exact eLeaf (θ := (Sum.map (fun (s7 : Int32 × Int32 × ST) => (s7.1, s7.2.1, mkM K R s7.2.2)) (fun (e7 : Int32 × ST) => (e7.1, mkM K R e7.2)))) h rfl
      · refine eIF h (fun c10 h => ?_) (fun c10 h => ?_)
        · exact eLeaf (θ := (Sum.map (fun (s7 : Int32 × Int32 × ST) => (s7.1, s7.2.1, mkM K R s7.2.2)) (fun (e7 : Int32 × ST) => (e7.1, mkM K R e7.2)))) h rfl
        · refine eGR (kW_0 hw) (k8W 0 hw) (rW_0_9 hw) ?_
          refine eRI (kW_10 hw) h (fun v11 h => ?_)
          refine eGI (kd_90 hL) (Nat.le_of_ble_eq_true rfl) ?_
          refine eJN (fun j14 fj14 => ∀ (u12 : Int32) (S13 : ST), j14 u12 S13 = some x7 → fj14 u12 (mkM K R S13) = some (Sum.map (fun (s7 : Int32 × Int32 × ST) => (s7.1, s7.2.1, mkM K R s7.2.2)) (fun (e7 : Int32 × ST) => (e7.1, mkM K R e7.2)) x7)) h ?_ ?_
          · intro u12 S13 h
            exact eLeaf (θ := (Sum.map (fun (s7 : Int32 × Int32 × ST) => (s7.1, s7.2.1, mkM K R s7.2.2)) (fun (e7 : Int32 × ST) => (e7.1, mkM K R e7.2)))) h rfl
          · intro j14 fj14 Jj14 h
            refine eIF h (fun c15 h => ?_) (fun c15 h => ?_)
            · refine eCwiV (kd_90 hL) (Nat.le_of_ble_eq_true rfl) (fun _ hv => hFl _ _ _ _ hv) h (fun v16 h => ?_)
              refine eGR (kW_0 hw) (k8W 0 hw) (rW_0_10 hw) ?_
              refine eRI (kW_11 hw) h (fun v17 h => ?_)
              refine eLT h (fun w18 h => ?_)
              refine eLT h (fun w19 h => ?_)
              exact Jj14 _ _ h
            · exact Jj14 _ _ h
    · intro e7 h
      exact eLeaf (θ := (fun (o : (Int32 × ST)) => (o.1, mkM K R o.2))) h rfl
  · intro j20 fj20 Jj20 h
    refine eIF h (fun c21 h => ?_) (fun c21 h => ?_)
    · exact Jj20 _ _ h
    · refine eIF h (fun c22 h => ?_) (fun c22 h => ?_)
      · exact Jj20 _ _ h
      · refine eCwiV (kd_90 hL) (Nat.le_of_ble_eq_true rfl) (fun _ hv => hFl _ _ _ _ hv) h (fun v23 h => ?_)
        refine eCS (fun _ hv => E_J6_numberOfTrailingZeros_0f7a4_ok hn hL hv) h (fun v24 h => ?_)
        refine eLT h (fun w25 h => ?_)
        exact Jj20 _ _ h
-- OnlyUpward$Cheapest.entry(LOnlyUpward$World;II)I
set_option maxRecDepth 100000 in
set_option maxHeartbeats 4000000 in
def E_X0_entry (n : Nat) (El : ST → Int32 → Int32 → Option (Int32 × ST)) (S : ST) (w : Nat) (a2 : Int32) (a3 : Int32) : Option (Int32 × ST) :=
  jn (some ((1024002047 : Int32), S)) fun j1 => if ((a2 * (1024 : Int32)) + a3) < 0 then j1 else if ((a2 * (1024 : Int32)) + a3) < (24576 : Int32) then (rd (S.1 161) 24576 ((a2 * (1024 : Int32)) + a3)).bind fun v4 => jn (fun (S5 : ST) => (rd (S5.1 161) 24576 ((a2 * (1024 : Int32)) + a3)).bind fun v6 => some (v6, S5)) fun j7 => if v4 = (-1 : Int32) then (El S (a2 + (1 : Int32)) a3).bind fun v9 => (iter (fun (s10 : Int32 × Int32 × ST) => (rd (s10.2.2.1 (w + 1)) 11 (1 : Int32)).bind fun v11 => if v11 ≤ s10.2.1 then some (.inr (s10.1, s10.2.2)) else (E_X11_hasBit n s10.2.2 a3 s10.2.1).bind fun v13 => jn (fun (u14 : Int32) (S15 : ST) => some (.inl (u14, (s10.2.1 + (1 : Int32)), S15))) fun j16 => if v13 = 0 then j16 s10.1 s10.2.2 else (E_X0_entryBy n El s10.2.2 w a2 a3 s10.2.1).bind fun v18 => j16 (mnI s10.1 v18.1) v18.2) n (((v9.1 * (2048 : Int32)) + (2047 : Int32)), (0 : Int32), v9.2)).bind fun (e10 : Int32 × ST) => (wr e10.2 161 24576 ((a2 * (1024 : Int32)) + a3) e10.1).bind fun S19 => j7 S19 else j7 S else j1
set_option maxRecDepth 100000 in
set_option maxHeartbeats 4000000 in
theorem E_X0_entry_ok {n : Nat} (hn : 30000 ≤ n) {K : AK} {R : Nat → Nat → Option Nat} {S : ST} {w : Nat} {a2 : Int32} {a3 : Int32} {tz : Nat} (hL : Lay K R tz 161) (hE : K[161]? = some (.inr (0, 24576))) (hw : LW K R w) {El : ST → Int32 → Int32 → Option (Int32 × ST)} {Fl : AM → Nat → Nat → Int32 → Int32 → Option (Int32 × AM)} (hFl : ∀ (S : ST) (a b : Int32) (v : Int32 × ST), El S a b = some v → Fl (mkM K R S) 90 w a b = some (v.1, mkM K R v.2)) {o : (Int32 × ST)} (h : E_X0_entry n El S w a2 a3 = some o) : F_X0_entry n Fl (mkM K R S) 90 w a2 a3 = some (o.1, mkM K R o.2) := by
  unfold E_X0_entry at h
  unfold F_X0_entry
  refine eJN (fun j1 fj1 => j1 = some o → fj1 = some (o.1, mkM K R o.2)) h ?_ ?_
  · intro h
    exact eLeaf (θ := (fun (o : (Int32 × ST)) => (o.1, mkM K R o.2))) h rfl
  · intro j1 fj1 Jj1 h
    refine eIF h (fun c2 h => ?_) (fun c2 h => ?_)
    · exact Jj1 h
    · refine eGR (kd_90 hL) (Nat.le_of_ble_eq_true rfl) hL.2.2.2.2.2 ?_
      refine eAL hE (by decide) ?_
      refine eIF h (fun c3 h => ?_) (fun c3 h => ?_)
      · refine eGR (kd_90 hL) (Nat.le_of_ble_eq_true rfl) hL.2.2.2.2.2 ?_
        refine eRI hE h (fun v4 h => ?_)
        refine eJN (fun j7 fj7 => ∀ (S5 : ST), j7 S5 = some o → fj7 (mkM K R S5) = some (o.1, mkM K R o.2)) h ?_ ?_
        · intro S5 h
          refine eGR (kd_90 hL) (Nat.le_of_ble_eq_true rfl) hL.2.2.2.2.2 ?_
          refine eRI hE h (fun v6 h => ?_)
          exact eLeaf (θ := (fun (o : (Int32 × ST)) => (o.1, mkM K R o.2))) h rfl
        · intro j7 fj7 Jj7 h
          refine eIF h (fun c8 h => ?_) (fun c8 h => ?_)
          · refine eCwiV (kd_90 hL) (Nat.le_of_ble_eq_true rfl) (fun _ hv => hFl _ _ _ _ hv) h (fun v9 h => ?_)
            refine eLP (fun (s10 : Int32 × Int32 × ST) => (s10.1, s10.2.1, mkM K R s10.2.2)) (fun (e10 : Int32 × ST) => (e10.1, mkM K R e10.2)) h rfl ?_ ?_
            · intro s10 x10 h
              refine eGR (kW_0 hw) (k8W 0 hw) (rW_0_0 hw) ?_
              refine eRI (kW_1 hw) h (fun v11 h => ?_)
              refine eIF h (fun c12 h => ?_) (fun c12 h => ?_)
              · exact eLeaf (θ := (Sum.map (fun (s10 : Int32 × Int32 × ST) => (s10.1, s10.2.1, mkM K R s10.2.2)) (fun (e10 : Int32 × ST) => (e10.1, mkM K R e10.2)))) h rfl
              · refine eCS (fun _ hv => E_X11_hasBit_ok hn hL hv) h (fun v13 h => ?_)
                refine eJN (fun j16 fj16 => ∀ (u14 : Int32) (S15 : ST), j16 u14 S15 = some x10 → fj16 u14 (mkM K R S15) = some (Sum.map (fun (s10 : Int32 × Int32 × ST) => (s10.1, s10.2.1, mkM K R s10.2.2)) (fun (e10 : Int32 × ST) => (e10.1, mkM K R e10.2)) x10)) h ?_ ?_
                · intro u14 S15 h
                  exact eLeaf (θ := (Sum.map (fun (s10 : Int32 × Int32 × ST) => (s10.1, s10.2.1, mkM K R s10.2.2)) (fun (e10 : Int32 × ST) => (e10.1, mkM K R e10.2)))) h rfl
                · intro j16 fj16 Jj16 h
                  refine eIF h (fun c17 h => ?_) (fun c17 h => ?_)
                  · exact Jj16 _ _ h
                  · refine eCwiV (kd_90 hL) (Nat.le_of_ble_eq_true rfl) (fun _ hv => E_X0_entryBy_ok hn hL hE hw hFl hv) h (fun v18 h => ?_)
                    exact Jj16 _ _ h
            · intro e10 h
              refine eGR (kd_90 hL) (Nat.le_of_ble_eq_true rfl) hL.2.2.2.2.2 ?_
              refine eWI hE (Nat.le_of_ble_eq_true rfl) h (fun S19 h => ?_)
              exact Jj7 _ h
          · exact Jj7 _ h
      · exact Jj1 h
-- OnlyUpward$Cheapest.least(LOnlyUpward$World;II)I
set_option maxRecDepth 100000 in
set_option maxHeartbeats 4000000 in
def E_X0_least (n : Nat) : Nat → (Nat → ST → Int32 → Int32 → Option (Int32 × ST))
  | 0 => fun _ _ _ _ => none
  | k + 1 => fun w S a2 a3 =>
    (E_X11_hasBit n S a3 (S.1 90 0)).bind fun v1 => if v1 = 0 then if a2 < (24 : Int32) then (E_X0_entry n (E_X0_least n k w) S w a2 a3).bind fun v4 => gd (¬ (2048 : Int32) = 0) (some ((v4.1 / (2048 : Int32)), v4.2)) else some ((500000 : Int32), S) else some ((0 : Int32), S)
set_option maxRecDepth 100000 in
set_option maxHeartbeats 4000000 in
theorem E_X0_least_ok_k {n : Nat} (hn : 30000 ≤ n) {K : AK} {R : Nat → Nat → Option Nat} {w tz : Nat} (hL : Lay K R tz 161) (hE : K[161]? = some (.inr (0, 24576))) (hw : LW K R w) : ∀ {k : Nat} {S : ST} {a2 a3 : Int32} {o : Int32 × ST} (h : E_X0_least n k w S a2 a3 = some o), F_X0_least n k (mkM K R S) 90 w a2 a3 = some (o.1, mkM K R o.2) := by
  intro k
  induction k with
  | zero => intro S a2 a3 o h; cases h
  | succ k ih =>
    intro S a2 a3 o h
    unfold E_X0_least at h
    unfold F_X0_least
    refine eGI (kd_90 hL) (Nat.le_of_ble_eq_true rfl) ?_
    refine eCS (fun _ hv => E_X11_hasBit_ok hn hL hv) h (fun v1 h => ?_)
    refine eIF h (fun c2 h => ?_) (fun c2 h => ?_)
    · refine eIF h (fun c3 h => ?_) (fun c3 h => ?_)
      · refine eCwiV (kd_90 hL) (Nat.le_of_ble_eq_true rfl) (fun _ hv => E_X0_entry_ok hn hL hE hw (fun _ _ _ _ hz => ih hz) hv) h (fun v4 h => ?_)
        refine eGD h (fun c5 h => ?_)
        exact eLeaf (θ := (fun (o : (Int32 × ST)) => (o.1, mkM K R o.2))) h rfl
      · exact eLeaf (θ := (fun (o : (Int32 × ST)) => (o.1, mkM K R o.2))) h rfl
    · exact eLeaf (θ := (fun (o : (Int32 × ST)) => (o.1, mkM K R o.2))) h rfl
theorem E_X0_least_ok {n : Nat} (hn : 30000 ≤ n) {K : AK} {R : Nat → Nat → Option Nat} {w tz : Nat} (hL : Lay K R tz 161) (hE : K[161]? = some (.inr (0, 24576))) (hw : LW K R w) {S : ST} {a2 a3 : Int32} {o : Int32 × ST} (h : E_X0_least n 26 w S a2 a3 = some o) : F_X0_least n 26 (mkM K R S) 90 w a2 a3 = some (o.1, mkM K R o.2) := E_X0_least_ok_k hn hL hE hw h
-- OnlyUpward$Cheapest.step(LOnlyUpward$World;III)I
set_option maxRecDepth 100000 in
set_option maxHeartbeats 4000000 in
def E_X0_step (n : Nat) (S : ST) (w : Nat) (a2 : Int32) (a3 : Int32) (a4 : Int32) : Option (Int32 × ST) :=
  (E_X0_least n 26 w S a2 a3).bind fun v1 => if v1.1 = (500000 : Int32) then some ((-1 : Int32), v1.2) else (iter (fun (s3 : Int32 × Int32 × Int32 × ST) => if (24 : Int32) ≤ s3.2.2.1 then some (.inr (.inl s3.2.2.2)) else (E_X11_hasBit n s3.2.2.2 s3.1 (s3.2.2.2.1 90 0)).bind fun v5 => if v5 = 0 then (E_X0_entry n (E_X0_least n 26 w) s3.2.2.2 w s3.2.2.1 s3.1).bind fun v7 => gd (¬ (2048 : Int32) = 0) (lets (v7.1 - v7.1 / (2048 : Int32) * (2048 : Int32)) fun (w8 : Int32) => jn (fun (u9 : Int32) (u10 : Int32) => some (.inl (u9, u10, (s3.2.2.1 + (1 : Int32)), v7.2))) fun j11 => if w8 = (2047 : Int32) then j11 s3.1 s3.2.1 else if s3.2.1 = a4 then some (.inr (.inr ((((10000 : Int32) * s3.2.2.1) + w8), v7.2))) else gd (¬ (1000 : Int32) = 0) (gd (¬ (20 : Int32) = 0) ((E_X10_placeOf n v7.2 w ((w8 - w8 / (1000 : Int32) * (1000 : Int32)) / (20 : Int32)) s3.2.2.1).bind fun v14 => jn (fun (u15 : Int32) => j11 (s3.1 ||| u15) (s3.2.1 + (1 : Int32))) fun j16 => if (1000 : Int32) ≤ w8 then (E_X10_standers n v7.2 w v14 s3.2.2.1).bind fun v18 => j16 v18 else (E_X10_hearers n v7.2 w v14 s3.2.2.1).bind fun v19 => j16 v19))) else some (.inr (.inl s3.2.2.2))) n (a3, (0 : Int32), a2, v1.2)).bind fun (z3 : (ST) ⊕ (Int32 × ST)) => Sum.elim (fun (e3 : ST) => some ((-1 : Int32), e3)) (fun (v : (Int32 × ST)) => some v) z3
set_option maxRecDepth 100000 in
set_option maxHeartbeats 4000000 in
theorem E_X0_step_ok {n : Nat} (hn : 30000 ≤ n) {K : AK} {R : Nat → Nat → Option Nat} {S : ST} {w : Nat} {a2 : Int32} {a3 : Int32} {a4 : Int32} {tz : Nat} (hL : Lay K R tz 161) (hE : K[161]? = some (.inr (0, 24576))) (hw : LW K R w) {o : (Int32 × ST)} (h : E_X0_step n S w a2 a3 a4 = some o) : F_X0_step n (mkM K R S) 90 w a2 a3 a4 = some (o.1, mkM K R o.2) := by
  unfold E_X0_step at h
  unfold F_X0_step
  refine eCwiV (kd_90 hL) (Nat.le_of_ble_eq_true rfl) (fun _ hv => E_X0_least_ok hn hL hE hw hv) h (fun v1 h => ?_)
  refine eIF h (fun c2 h => ?_) (fun c2 h => ?_)
  · exact eLeaf (θ := (fun (o : (Int32 × ST)) => (o.1, mkM K R o.2))) h rfl
  · refine eLP (fun (s3 : Int32 × Int32 × Int32 × ST) => (s3.1, s3.2.1, s3.2.2.1, mkM K R s3.2.2.2)) (Sum.map (fun (e3 : ST) => mkM K R e3) (fun (v : (Int32 × ST)) => (v.1, mkM K R v.2))) h rfl ?_ ?_
    · intro s3 x3 h
      refine eIF h (fun c4 h => ?_) (fun c4 h => ?_)
      · exact eLeaf (θ := (Sum.map (fun (s3 : Int32 × Int32 × Int32 × ST) => (s3.1, s3.2.1, s3.2.2.1, mkM K R s3.2.2.2)) (Sum.map (fun (e3 : ST) => mkM K R e3) (fun (v : (Int32 × ST)) => (v.1, mkM K R v.2))))) h rfl
      · refine eGI (kd_90 hL) (Nat.le_of_ble_eq_true rfl) ?_
        refine eCS (fun _ hv => E_X11_hasBit_ok hn hL hv) h (fun v5 h => ?_)
        refine eIF h (fun c6 h => ?_) (fun c6 h => ?_)
        · refine eCwiV (kd_90 hL) (Nat.le_of_ble_eq_true rfl) (fun _ hv => E_X0_entry_ok hn hL hE hw (fun _ _ _ _ hz => E_X0_least_ok hn hL hE hw hz) hv) h (fun v7 h => ?_)
          refine eGD h (fun c22 h => ?_)
          refine eLT h (fun w8 h => ?_)
          refine eJN (fun j11 fj11 => ∀ (u9 : Int32) (u10 : Int32), j11 u9 u10 = some x3 → fj11 u9 u10 = some (Sum.map (fun (s3 : Int32 × Int32 × Int32 × ST) => (s3.1, s3.2.1, s3.2.2.1, mkM K R s3.2.2.2)) (Sum.map (fun (e3 : ST) => mkM K R e3) (fun (v : (Int32 × ST)) => (v.1, mkM K R v.2))) x3)) h ?_ ?_
          · intro u9 u10 h
            exact eLeaf (θ := (Sum.map (fun (s3 : Int32 × Int32 × Int32 × ST) => (s3.1, s3.2.1, s3.2.2.1, mkM K R s3.2.2.2)) (Sum.map (fun (e3 : ST) => mkM K R e3) (fun (v : (Int32 × ST)) => (v.1, mkM K R v.2))))) h rfl
          · intro j11 fj11 Jj11 h
            refine eIF h (fun c12 h => ?_) (fun c12 h => ?_)
            · exact Jj11 _ _ h
            · refine eIF h (fun c13 h => ?_) (fun c13 h => ?_)
              · exact eLeaf (θ := (Sum.map (fun (s3 : Int32 × Int32 × Int32 × ST) => (s3.1, s3.2.1, s3.2.2.1, mkM K R s3.2.2.2)) (Sum.map (fun (e3 : ST) => mkM K R e3) (fun (v : (Int32 × ST)) => (v.1, mkM K R v.2))))) h rfl
              · refine eGD h (fun c21 h => ?_)
                refine eGD h (fun c20 h => ?_)
                refine eCV (kW_0 hw) (k8W 0 hw) (fun _ hv => E_X10_placeOf_ok hn hL hw hv) h (fun v14 h => ?_)
                refine eJN (fun j16 fj16 => ∀ (u15 : Int32), j16 u15 = some x3 → fj16 u15 = some (Sum.map (fun (s3 : Int32 × Int32 × Int32 × ST) => (s3.1, s3.2.1, s3.2.2.1, mkM K R s3.2.2.2)) (Sum.map (fun (e3 : ST) => mkM K R e3) (fun (v : (Int32 × ST)) => (v.1, mkM K R v.2))) x3)) h ?_ ?_
                · intro u15 h
                  exact Jj11 _ _ h
                · intro j16 fj16 Jj16 h
                  refine eIF h (fun c17 h => ?_) (fun c17 h => ?_)
                  · refine eCV (kW_0 hw) (k8W 0 hw) (fun _ hv => E_X10_standers_ok hn hL hw hv) h (fun v18 h => ?_)
                    exact Jj16 _ h
                  · refine eCV (kW_0 hw) (k8W 0 hw) (fun _ hv => E_X10_hearers_ok hn hL hw hv) h (fun v19 h => ?_)
                    exact Jj16 _ h
        · exact eLeaf (θ := (Sum.map (fun (s3 : Int32 × Int32 × Int32 × ST) => (s3.1, s3.2.1, s3.2.2.1, mkM K R s3.2.2.2)) (Sum.map (fun (e3 : ST) => mkM K R e3) (fun (v : (Int32 × ST)) => (v.1, mkM K R v.2))))) h rfl
    · intro z3 h
      rcases z3 with e3 | v
      · have h := sum_inl h
        exact eLeaf (θ := (fun (o : (Int32 × ST)) => (o.1, mkM K R o.2))) h rfl
      · have h := sum_inr h
        exact eLeaf (θ := (fun (o : (Int32 × ST)) => (o.1, mkM K R o.2))) h rfl
