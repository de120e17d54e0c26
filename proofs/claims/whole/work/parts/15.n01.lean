-- OnlyUpward$Teller.find(I)I
set_option maxRecDepth 100000 in
set_option maxHeartbeats 4000000 in
def E_X8_find (n : Nat) (S : ST) (a1 : Int32) : Option Int32 :=
  (E_X9_valueAt n S a1).bind fun v1 => (iter (fun (s2 : Int32) => if (S.1 18 4) ≤ s2 then some (.inr (.inl ())) else (rd (S.2 19) 32 s2).bind fun v4 => if (lg_cmp v4 v1) = 0 then some (.inr (.inr s2)) else some (.inl (s2 + (1 : Int32)))) n (0 : Int32)).bind fun (z2 : (Unit) ⊕ Int32) => Sum.elim (fun (e2 : Unit) => some (-1 : Int32)) (fun (v : Int32) => some v) z2
set_option maxRecDepth 100000 in
set_option maxHeartbeats 4000000 in
theorem E_X8_find_ok {n : Nat} (hn : 30000 ≤ n) {K : AK} {R : Nat → Nat → Option Nat} {S : ST} {a1 : Int32} {tz en : Nat} (hL : Lay K R tz en) {o : Int32} (h : E_X8_find n S a1 = some o) : F_X8_find n (mkM K R S) 18 a1 = some o := by
  unfold E_X8_find at h
  unfold F_X8_find
  refine eGR (kd_18 hL) (Nat.le_of_ble_eq_true rfl) (rd_18_0 hL) ?_
  refine eCV (kd_10 hL) (Nat.le_of_ble_eq_true rfl) (fun _ hv => E_X9_valueAt_ok hn hL hv) h (fun v1 h => ?_)
  refine eLP (fun (s2 : Int32) => s2) (Sum.map (fun (e2 : Unit) => e2) (fun (v : Int32) => v)) h rfl ?_ ?_
  · intro s2 x2 h
    refine eGI (kd_18 hL) (Nat.le_of_ble_eq_true rfl) ?_
    refine eIF h (fun c3 h => ?_) (fun c3 h => ?_)
    · exact eLeaf (θ := (Sum.map (fun (s2 : Int32) => s2) (Sum.map (fun (e2 : Unit) => e2) (fun (v : Int32) => v)))) h rfl
    · refine eGR (kd_18 hL) (Nat.le_of_ble_eq_true rfl) (rd_18_1 hL) ?_
      refine eRL (kd_19 hL) (Nat.le_of_ble_eq_true rfl) h (fun v4 h => ?_)
      refine eIF h (fun c5 h => ?_) (fun c5 h => ?_)
      · exact eLeaf (θ := (Sum.map (fun (s2 : Int32) => s2) (Sum.map (fun (e2 : Unit) => e2) (fun (v : Int32) => v)))) h rfl
      · exact eLeaf (θ := (Sum.map (fun (s2 : Int32) => s2) (Sum.map (fun (e2 : Unit) => e2) (fun (v : Int32) => v)))) h rfl
  · intro z2 h
    rcases z2 with e2 | v
    · have h := sum_inl h
      exact eLeaf (θ := (fun (o : Int32) => o)) h rfl
    · have h := sum_inr h
      exact eLeaf (θ := (fun (o : Int32) => o)) h rfl
-- OnlyUpward$Teller.refuse(II)V
set_option maxRecDepth 100000 in
set_option maxHeartbeats 4000000 in
def E_X8_refuse (n : Nat) (S : ST) (a1 : Int32) (a2 : Int32) : Option ST :=
  if (S.1 18 5) = 0 then lets (upI S 18 5 a1) fun (S2 : ST) => lets (upI S2 18 6 a2) fun (S3 : ST) => some S3 else some S
set_option maxRecDepth 100000 in
set_option maxHeartbeats 4000000 in
theorem E_X8_refuse_ok {n : Nat} (hn : 30000 ≤ n) {K : AK} {R : Nat → Nat → Option Nat} {S : ST} {a1 : Int32} {a2 : Int32} {tz en : Nat} (hL : Lay K R tz en) {o : ST} (h : E_X8_refuse n S a1 a2 = some o) : F_X8_refuse n (mkM K R S) 18 a1 a2 = some (mkM K R o) := by
  unfold E_X8_refuse at h
  unfold F_X8_refuse
  refine eGI (kd_18 hL) (Nat.le_of_ble_eq_true rfl) ?_
  refine eIF h (fun c1 h => ?_) (fun c1 h => ?_)
  · refine ePI (kd_18 hL) (Nat.le_of_ble_eq_true rfl) h (fun S2 h => ?_)
    refine ePI (kd_18 hL) (Nat.le_of_ble_eq_true rfl) h (fun S3 h => ?_)
    exact eLeaf (θ := (fun (o : ST) => (mkM K R o))) h rfl
  · exact eLeaf (θ := (fun (o : ST) => (mkM K R o))) h rfl
-- OnlyUpward$Teller.newName(LOnlyUpward$World;II)V
set_option maxRecDepth 100000 in
set_option maxHeartbeats 4000000 in
def E_X8_newName (n : Nat) (S : ST) (w : Nat) (a2 : Int32) (a3 : Int32) : Option ST :=
  (E_X8_find n S a3).bind fun v1 => if v1 = (-1 : Int32) then if (32 : Int32) ≤ (S.1 18 4) then some S else (E_X9_valueAt n S a3).bind fun v4 => (wrl S 19 32 (S.1 18 4) v4).bind fun S5 => (wr S5 20 32 (S5.1 18 4) a2).bind fun S6 => (rd (S6.1 (w + 1)) 11 a2).bind fun v7 => (wr S6 21 32 (S6.1 18 4) v7).bind fun S8 => lets (upI S8 18 4 ((S8.1 18 4) + (1 : Int32))) fun (S9 : ST) => some S9 else (E_X8_refuse n S (3 : Int32) a3).bind fun S11 => some S11
set_option maxRecDepth 100000 in
set_option maxHeartbeats 4000000 in
theorem E_X8_newName_ok {n : Nat} (hn : 30000 ≤ n) {K : AK} {R : Nat → Nat → Option Nat} {S : ST} {w : Nat} {a2 : Int32} {a3 : Int32} {tz en : Nat} (hL : Lay K R tz en) (hw : LW K R w) {o : ST} (h : E_X8_newName n S w a2 a3 = some o) : F_X8_newName n (mkM K R S) 18 w a2 a3 = some (mkM K R o) := by
  unfold E_X8_newName at h
  unfold F_X8_newName
  refine eCV (kd_18 hL) (Nat.le_of_ble_eq_true rfl) (fun _ hv => E_X8_find_ok hn hL hv) h (fun v1 h => ?_)
  refine eIF h (fun c2 h => ?_) (fun c2 h => ?_)
  · refine eGI (kd_18 hL) (Nat.le_of_ble_eq_true rfl) ?_
    refine eIF h (fun c3 h => ?_) (fun c3 h => ?_)
    · exact eLeaf (θ := (fun (o : ST) => (mkM K R o))) h rfl
    · refine eGR (kd_18 hL) (Nat.le_of_ble_eq_true rfl) (rd_18_1 hL) ?_
      refine eGI (kd_18 hL) (Nat.le_of_ble_eq_true rfl) ?_
      refine eGR (kd_18 hL) (Nat.le_of_ble_eq_true rfl) (rd_18_0 hL) ?_
      refine eCV (kd_10 hL) (Nat.le_of_ble_eq_true rfl) (fun _ hv => E_X9_valueAt_ok hn hL hv) h (fun v4 h => ?_)
      refine eWL (kd_19 hL) (Nat.le_of_ble_eq_true rfl) h (fun S5 h => ?_)
      refine eGR (kd_18 hL) (Nat.le_of_ble_eq_true rfl) (rd_18_2 hL) ?_
      refine eGI (kd_18 hL) (Nat.le_of_ble_eq_true rfl) ?_
      refine eWI (kd_20 hL) (Nat.le_of_ble_eq_true rfl) h (fun S6 h => ?_)
      refine eGR (kd_18 hL) (Nat.le_of_ble_eq_true rfl) (rd_18_3 hL) ?_
      refine eGI (kd_18 hL) (Nat.le_of_ble_eq_true rfl) ?_
      refine eGR (kW_0 hw) (k8W 0 hw) (rW_0_0 hw) ?_
      refine eRI (kW_1 hw) h (fun v7 h => ?_)
      refine eWI (kd_21 hL) (Nat.le_of_ble_eq_true rfl) h (fun S8 h => ?_)
      refine eGI (kd_18 hL) (Nat.le_of_ble_eq_true rfl) ?_
      refine ePI (kd_18 hL) (Nat.le_of_ble_eq_true rfl) h (fun S9 h => ?_)
      exact eLeaf (θ := (fun (o : ST) => (mkM K R o))) h rfl
  · refine eCwV (kd_18 hL) (Nat.le_of_ble_eq_true rfl) (fun _ hv => E_X8_refuse_ok hn hL hv) h (fun S11 h => ?_)
    exact eLeaf (θ := (fun (o : ST) => (mkM K R o))) h rfl
-- OnlyUpward$World.addPlace()V
set_option maxRecDepth 100000 in
set_option maxHeartbeats 4000000 in
def E_X10_addPlace (n : Nat) (S : ST) (w : Nat) : Option ST :=
  (rd (S.1 (w + 1)) 11 (0 : Int32)).bind fun v1 => if (6 : Int32) ≤ v1 then some S else (rd (S.1 (w + 1)) 11 (0 : Int32)).bind fun v3 => (wr S (w + 1) 11 (0 : Int32) (v3 + (1 : Int32))).bind fun S4 => some S4
set_option maxRecDepth 100000 in
set_option maxHeartbeats 4000000 in
theorem E_X10_addPlace_ok {n : Nat} (hn : 30000 ≤ n) {K : AK} {R : Nat → Nat → Option Nat} {S : ST} {w : Nat} {tz en : Nat} (hL : Lay K R tz en) (hw : LW K R w) {o : ST} (h : E_X10_addPlace n S w = some o) : F_X10_addPlace n (mkM K R S) w = some (mkM K R o) := by
  unfold E_X10_addPlace at h
  unfold F_X10_addPlace
  refine eGR (kW_0 hw) (k8W 0 hw) (rW_0_0 hw) ?_
  refine eRI (kW_1 hw) h (fun v1 h => ?_)
  refine eIF h (fun c2 h => ?_) (fun c2 h => ?_)
  · exact eLeaf (θ := (fun (o : ST) => (mkM K R o))) h rfl
  · refine eGR (kW_0 hw) (k8W 0 hw) (rW_0_0 hw) ?_
    refine eRI (kW_1 hw) h (fun v3 h => ?_)
    refine eWI (kW_1 hw) (k8W 1 hw) h (fun S4 h => ?_)
    exact eLeaf (θ := (fun (o : ST) => (mkM K R o))) h rfl
-- OnlyUpward$Teller.within(III)I
set_option maxRecDepth 100000 in
set_option maxHeartbeats 4000000 in
def E_X8_within (n : Nat) (S : ST) (a1 : Int32) (a2 : Int32) (a3 : Int32) : Option (Int32 × ST) :=
  (E_X9_valueAt n S a1).bind fun v1 => jn ((E_X8_refuse n S (5 : Int32) a1).bind fun S3 => some (a2, S3)) fun j4 => if (v1).toInt32 < a2 then j4 else if (v1).toInt32 ≤ a3 then some ((v1).toInt32, S) else j4
set_option maxRecDepth 100000 in
set_option maxHeartbeats 4000000 in
theorem E_X8_within_ok {n : Nat} (hn : 30000 ≤ n) {K : AK} {R : Nat → Nat → Option Nat} {S : ST} {a1 : Int32} {a2 : Int32} {a3 : Int32} {tz en : Nat} (hL : Lay K R tz en) {o : (Int32 × ST)} (h : E_X8_within n S a1 a2 a3 = some o) : F_X8_within n (mkM K R S) 18 a1 a2 a3 = some (o.1, mkM K R o.2) := by
  unfold E_X8_within at h
  unfold F_X8_within
  refine eGR (kd_18 hL) (Nat.le_of_ble_eq_true rfl) (rd_18_0 hL) ?_
  refine eCV (kd_10 hL) (Nat.le_of_ble_eq_true rfl) (fun _ hv => E_X9_valueAt_ok hn hL hv) h (fun v1 h => ?_)
  refine eJN (fun j4 fj4 => j4 = some o → fj4 = some (o.1, mkM K R o.2)) h ?_ ?_
  · intro h
    refine eCwV (kd_18 hL) (Nat.le_of_ble_eq_true rfl) (fun _ hv => E_X8_refuse_ok hn hL hv) h (fun S3 h => ?_)
    exact eLeaf (θ := (fun (o : (Int32 × ST)) => (o.1, mkM K R o.2))) h rfl
  · intro j4 fj4 Jj4 h
    refine eIF h (fun c5 h => ?_) (fun c5 h => ?_)
    · exact Jj4 h
    · refine eIF h (fun c6 h => ?_) (fun c6 h => ?_)
      · exact eLeaf (θ := (fun (o : (Int32 × ST)) => (o.1, mkM K R o.2))) h rfl
      · exact Jj4 h
-- OnlyUpward$World.addThing(I)V
set_option maxRecDepth 100000 in
set_option maxHeartbeats 4000000 in
def E_X10_addThing (n : Nat) (S : ST) (w : Nat) (a1 : Int32) : Option ST :=
  (rd (S.1 (w + 1)) 11 (2 : Int32)).bind fun v1 => if (6 : Int32) ≤ v1 then some S else (wr S (w + 4) 6 v1 a1).bind fun S3 => (rd (S3.1 (w + 1)) 11 (2 : Int32)).bind fun v4 => (wr S3 (w + 1) 11 (2 : Int32) (v4 + (1 : Int32))).bind fun S5 => some S5
set_option maxRecDepth 100000 in
set_option maxHeartbeats 4000000 in
theorem E_X10_addThing_ok {n : Nat} (hn : 30000 ≤ n) {K : AK} {R : Nat → Nat → Option Nat} {S : ST} {w : Nat} {a1 : Int32} {tz en : Nat} (hL : Lay K R tz en) (hw : LW K R w) {o : ST} (h : E_X10_addThing n S w a1 = some o) : F_X10_addThing n (mkM K R S) w a1 = some (mkM K R o) := by
  unfold E_X10_addThing at h
  unfold F_X10_addThing
  refine eGR (kW_0 hw) (k8W 0 hw) (rW_0_0 hw) ?_
  refine eRI (kW_1 hw) h (fun v1 h => ?_)
  refine eIF h (fun c2 h => ?_) (fun c2 h => ?_)
  · exact eLeaf (θ := (fun (o : ST) => (mkM K R o))) h rfl
  · refine eGR (kW_0 hw) (k8W 0 hw) (rW_0_3 hw) ?_
    refine eWI (kW_4 hw) (k8W 4 hw) h (fun S3 h => ?_)
    refine eGR (kW_0 hw) (k8W 0 hw) (rW_0_0 hw) ?_
    refine eRI (kW_1 hw) h (fun v4 h => ?_)
    refine eWI (kW_1 hw) (k8W 1 hw) h (fun S5 h => ?_)
    exact eLeaf (θ := (fun (o : ST) => (mkM K R o))) h rfl
-- OnlyUpward$World.addPerson(II)V
set_option maxRecDepth 100000 in
set_option maxHeartbeats 4000000 in
def E_X10_addPerson (n : Nat) (S : ST) (w : Nat) (a1 : Int32) (a2 : Int32) : Option ST :=
  (rd (S.1 (w + 1)) 11 (1 : Int32)).bind fun v1 => if (10 : Int32) ≤ v1 then some S else (wr S (w + 2) 10 v1 a1).bind fun S3 => (wr S3 (w + 3) 10 v1 a2).bind fun S4 => (rd (S4.1 (w + 1)) 11 (1 : Int32)).bind fun v5 => (wr S4 (w + 1) 11 (1 : Int32) (v5 + (1 : Int32))).bind fun S6 => some S6
set_option maxRecDepth 100000 in
set_option maxHeartbeats 4000000 in
theorem E_X10_addPerson_ok {n : Nat} (hn : 30000 ≤ n) {K : AK} {R : Nat → Nat → Option Nat} {S : ST} {w : Nat} {a1 : Int32} {a2 : Int32} {tz en : Nat} (hL : Lay K R tz en) (hw : LW K R w) {o : ST} (h : E_X10_addPerson n S w a1 a2 = some o) : F_X10_addPerson n (mkM K R S) w a1 a2 = some (mkM K R o) := by
  unfold E_X10_addPerson at h
  unfold F_X10_addPerson
  refine eGR (kW_0 hw) (k8W 0 hw) (rW_0_0 hw) ?_
  refine eRI (kW_1 hw) h (fun v1 h => ?_)
  refine eIF h (fun c2 h => ?_) (fun c2 h => ?_)
  · exact eLeaf (θ := (fun (o : ST) => (mkM K R o))) h rfl
  · refine eGR (kW_0 hw) (k8W 0 hw) (rW_0_1 hw) ?_
    refine eWI (kW_2 hw) (k8W 2 hw) h (fun S3 h => ?_)
    refine eGR (kW_0 hw) (k8W 0 hw) (rW_0_2 hw) ?_
    refine eWI (kW_3 hw) (k8W 3 hw) h (fun S4 h => ?_)
    refine eGR (kW_0 hw) (k8W 0 hw) (rW_0_0 hw) ?_
    refine eRI (kW_1 hw) h (fun v5 h => ?_)
    refine eWI (kW_1 hw) (k8W 1 hw) h (fun S6 h => ?_)
    exact eLeaf (θ := (fun (o : ST) => (mkM K R o))) h rfl
-- OnlyUpward$Teller.tellBeing(LOnlyUpward$World;II)V
set_option maxRecDepth 100000 in
set_option maxHeartbeats 4000000 in
def E_X8_tellBeing (n : Nat) (S : ST) (w : Nat) (a2 : Int32) (a3 : Int32) : Option ST :=
  (E_X8_newName n S w a2 (a3 + (1 : Int32))).bind fun S2 => if a2 = 0 then (E_X10_addPlace n S2 w).bind fun S5 => some S5 else (E_X8_within n S2 (a3 + (2 : Int32)) (0 : Int32) (99 : Int32)).bind fun v6 => if a2 = (2 : Int32) then (E_X10_addThing n v6.2 w v6.1).bind fun S9 => some S9 else (E_X9_kindAt n v6.2 (a3 + (3 : Int32))).bind fun v10 => jn (fun (u11 : Int32) => jn (fun (u12 : Int32) (S13 : ST) => (E_X10_addPerson n S13 w v6.1 u12).bind fun S15 => some S15) fun j16 => if u11 = 0 then j16 (99 : Int32) v6.2 else (E_X8_within n v6.2 (a3 + (4 : Int32)) (0 : Int32) (23 : Int32)).bind fun v18 => j16 v18.1 v18.2) fun j19 => if v10 = (11 : Int32) then j19 (1 : Int32) else j19 (0 : Int32)
set_option maxRecDepth 100000 in
set_option maxHeartbeats 4000000 in
theorem E_X8_tellBeing_ok {n : Nat} (hn : 30000 ≤ n) {K : AK} {R : Nat → Nat → Option Nat} {S : ST} {w : Nat} {a2 : Int32} {a3 : Int32} {tz en : Nat} (hL : Lay K R tz en) (hw : LW K R w) {o : ST} (h : E_X8_tellBeing n S w a2 a3 = some o) : F_X8_tellBeing n (mkM K R S) 18 w a2 a3 = some (mkM K R o) := by
  unfold E_X8_tellBeing at h
  unfold F_X8_tellBeing
  refine eCwV (kd_18 hL) (Nat.le_of_ble_eq_true rfl) (fun _ hv => E_X8_newName_ok hn hL hw hv) h (fun S2 h => ?_)
  refine eIF h (fun c3 h => ?_) (fun c3 h => ?_)
  · refine eCwV (kW_0 hw) (k8W 0 hw) (fun _ hv => E_X10_addPlace_ok hn hL hw hv) h (fun S5 h => ?_)
    exact eLeaf (θ := (fun (o : ST) => (mkM K R o))) h rfl
  · refine eCwiV (kd_18 hL) (Nat.le_of_ble_eq_true rfl) (fun _ hv => E_X8_within_ok hn hL hv) h (fun v6 h => ?_)
    refine eIF h (fun c7 h => ?_) (fun c7 h => ?_)
    · refine eCwV (kW_0 hw) (k8W 0 hw) (fun _ hv => E_X10_addThing_ok hn hL hw hv) h (fun S9 h => ?_)
      exact eLeaf (θ := (fun (o : ST) => (mkM K R o))) h rfl
    · refine eGR (kd_18 hL) (Nat.le_of_ble_eq_true rfl) (rd_18_0 hL) ?_
      refine eCV (kd_10 hL) (Nat.le_of_ble_eq_true rfl) (fun _ hv => E_X9_kindAt_ok hn hL hv) h (fun v10 h => ?_)
      refine eJN (fun j19 fj19 => ∀ (u11 : Int32), j19 u11 = some o → fj19 u11 = some (mkM K R o)) h ?_ ?_
      · intro u11 h
        refine eJN (fun j16 fj16 => ∀ (u12 : Int32) (S13 : ST), j16 u12 S13 = some o → fj16 u12 (mkM K R S13) = some (mkM K R o)) h ?_ ?_
        · intro u12 S13 h
          refine eCwV (kW_0 hw) (k8W 0 hw) (fun _ hv => E_X10_addPerson_ok hn hL hw hv) h (fun S15 h => ?_)
          exact eLeaf (θ := (fun (o : ST) => (mkM K R o))) h rfl
        · intro j16 fj16 Jj16 h
          refine eIF h (fun c17 h => ?_) (fun c17 h => ?_)
          · exact Jj16 _ _ h
          · refine eCwiV (kd_18 hL) (Nat.le_of_ble_eq_true rfl) (fun _ hv => E_X8_within_ok hn hL hv) h (fun v18 h => ?_)
            exact Jj16 _ _ h
      · intro j19 fj19 Jj19 h
        refine eIF h (fun c20 h => ?_) (fun c20 h => ?_)
        · exact Jj19 _ h
        · exact Jj19 _ h
-- OnlyUpward$Teller.oldName(II)I
set_option maxRecDepth 100000 in
set_option maxHeartbeats 4000000 in
def E_X8_oldName (n : Nat) (S : ST) (a1 : Int32) (a2 : Int32) : Option (Int32 × ST) :=
  (E_X8_find n S a2).bind fun v1 => jn ((E_X8_refuse n S (4 : Int32) a2).bind fun S3 => some ((0 : Int32), S3)) fun j4 => if v1 = (-1 : Int32) then j4 else (rd (S.1 20) 32 v1).bind fun v6 => if v6 = a1 then (rd (S.1 21) 32 v1).bind fun v8 => some (v8, S) else j4
set_option maxRecDepth 100000 in
set_option maxHeartbeats 4000000 in
theorem E_X8_oldName_ok {n : Nat} (hn : 30000 ≤ n) {K : AK} {R : Nat → Nat → Option Nat} {S : ST} {a1 : Int32} {a2 : Int32} {tz en : Nat} (hL : Lay K R tz en) {o : (Int32 × ST)} (h : E_X8_oldName n S a1 a2 = some o) : F_X8_oldName n (mkM K R S) 18 a1 a2 = some (o.1, mkM K R o.2) := by
  unfold E_X8_oldName at h
  unfold F_X8_oldName
  refine eCV (kd_18 hL) (Nat.le_of_ble_eq_true rfl) (fun _ hv => E_X8_find_ok hn hL hv) h (fun v1 h => ?_)
  refine eJN (fun j4 fj4 => j4 = some o → fj4 = some (o.1, mkM K R o.2)) h ?_ ?_
  · intro h
    refine eCwV (kd_18 hL) (Nat.le_of_ble_eq_true rfl) (fun _ hv => E_X8_refuse_ok hn hL hv) h (fun S3 h => ?_)
    exact eLeaf (θ := (fun (o : (Int32 × ST)) => (o.1, mkM K R o.2))) h rfl
  · intro j4 fj4 Jj4 h
    refine eIF h (fun c5 h => ?_) (fun c5 h => ?_)
    · exact Jj4 h
    · refine eGR (kd_18 hL) (Nat.le_of_ble_eq_true rfl) (rd_18_2 hL) ?_
      refine eRI (kd_20 hL) h (fun v6 h => ?_)
      refine eIF h (fun c7 h => ?_) (fun c7 h => ?_)
      · refine eGR (kd_18 hL) (Nat.le_of_ble_eq_true rfl) (rd_18_3 hL) ?_
        refine eRI (kd_21 hL) h (fun v8 h => ?_)
        exact eLeaf (θ := (fun (o : (Int32 × ST)) => (o.1, mkM K R o.2))) h rfl
      · exact Jj4 h
-- OnlyUpward$World.addThin(II)V
set_option maxRecDepth 100000 in
set_option maxHeartbeats 4000000 in
def E_X10_addThin (n : Nat) (S : ST) (w : Nat) (a1 : Int32) (a2 : Int32) : Option ST :=
  (rd (S.1 (w + 1)) 11 (3 : Int32)).bind fun v1 => (wr S (w + 1) 11 (3 : Int32) (v1 + (1 : Int32))).bind fun S2 => (rd (S2.1 (w + 5)) 6 a1).bind fun v3 => (wr S2 (w + 5) 6 a1 (v3 ||| ((1 : Int32) <<< (a2 &&& 31)))).bind fun S4 => (rd (S4.1 (w + 5)) 6 a2).bind fun v5 => (wr S4 (w + 5) 6 a2 (v5 ||| ((1 : Int32) <<< (a1 &&& 31)))).bind fun S6 => some S6
set_option maxRecDepth 100000 in
set_option maxHeartbeats 4000000 in
theorem E_X10_addThin_ok {n : Nat} (hn : 30000 ≤ n) {K : AK} {R : Nat → Nat → Option Nat} {S : ST} {w : Nat} {a1 : Int32} {a2 : Int32} {tz en : Nat} (hL : Lay K R tz en) (hw : LW K R w) {o : ST} (h : E_X10_addThin n S w a1 a2 = some o) : F_X10_addThin n (mkM K R S) w a1 a2 = some (mkM K R o) := by
  unfold E_X10_addThin at h
  unfold F_X10_addThin
  refine eGR (kW_0 hw) (k8W 0 hw) (rW_0_0 hw) ?_
  refine eRI (kW_1 hw) h (fun v1 h => ?_)
  refine eWI (kW_1 hw) (k8W 1 hw) h (fun S2 h => ?_)
  refine eGR (kW_0 hw) (k8W 0 hw) (rW_0_4 hw) ?_
  refine eRI (kW_5 hw) h (fun v3 h => ?_)
  refine eWI (kW_5 hw) (k8W 5 hw) h (fun S4 h => ?_)
  refine eGR (kW_0 hw) (k8W 0 hw) (rW_0_4 hw) ?_
  refine eRI (kW_5 hw) h (fun v5 h => ?_)
  refine eWI (kW_5 hw) (k8W 5 hw) h (fun S6 h => ?_)
  exact eLeaf (θ := (fun (o : ST) => (mkM K R o))) h rfl
-- OnlyUpward$World.addStay(IIII)V
set_option maxRecDepth 100000 in
set_option maxHeartbeats 4000000 in
def E_X10_addStay (n : Nat) (S : ST) (w : Nat) (a1 : Int32) (a2 : Int32) (a3 : Int32) (a4 : Int32) : Option ST :=
  (rd (S.1 (w + 1)) 11 (4 : Int32)).bind fun v1 => (wr S (w + 1) 11 (4 : Int32) (v1 + (1 : Int32))).bind fun S2 => (iter (fun (s3 : Int32 × ST) => if a4 < s3.1 then some (.inr s3.2) else (wr s3.2 (w + 21) 240 ((a1 * (24 : Int32)) + s3.1) a2).bind fun S5 => some (.inl ((s3.1 + (1 : Int32)), S5))) n (a3, S2)).bind fun (e3 : ST) => some e3
set_option maxRecDepth 100000 in
set_option maxHeartbeats 4000000 in
theorem E_X10_addStay_ok {n : Nat} (hn : 30000 ≤ n) {K : AK} {R : Nat → Nat → Option Nat} {S : ST} {w : Nat} {a1 : Int32} {a2 : Int32} {a3 : Int32} {a4 : Int32} {tz en : Nat} (hL : Lay K R tz en) (hw : LW K R w) {o : ST} (h : E_X10_addStay n S w a1 a2 a3 a4 = some o) : F_X10_addStay n (mkM K R S) w a1 a2 a3 a4 = some (mkM K R o) := by
  unfold E_X10_addStay at h
  unfold F_X10_addStay
  refine eGR (kW_0 hw) (k8W 0 hw) (rW_0_0 hw) ?_
  refine eRI (kW_1 hw) h (fun v1 h => ?_)
  refine eWI (kW_1 hw) (k8W 1 hw) h (fun S2 h => ?_)
  refine eLP (fun (s3 : Int32 × ST) => (s3.1, mkM K R s3.2)) (fun (e3 : ST) => mkM K R e3) h rfl ?_ ?_
  · intro s3 x3 h
    refine eIF h (fun c4 h => ?_) (fun c4 h => ?_)
    · exact eLeaf (θ := (Sum.map (fun (s3 : Int32 × ST) => (s3.1, mkM K R s3.2)) (fun (e3 : ST) => mkM K R e3))) h rfl
    · refine eGR (kW_0 hw) (k8W 0 hw) (rW_0_13 hw) ?_
      refine eWI (kW_21 hw) (k8W 21 hw) h (fun S5 h => ?_)
      exact eLeaf (θ := (Sum.map (fun (s3 : Int32 × ST) => (s3.1, mkM K R s3.2)) (fun (e3 : ST) => mkM K R e3))) h rfl
  · intro e3 h
    exact eLeaf (θ := (fun (o : ST) => (mkM K R o))) h rfl
-- OnlyUpward$Teller.tellPlacing(LOnlyUpward$World;II)V
set_option maxRecDepth 100000 in
set_option maxHeartbeats 4000000 in
def E_X8_tellPlacing (n : Nat) (S : ST) (w : Nat) (a2 : Int32) (a3 : Int32) : Option ST :=
  jn (fun (u1 : Int32) => (E_X8_oldName n S u1 (a3 + (1 : Int32))).bind fun v2 => (E_X8_oldName n v2.2 (0 : Int32) (a3 + (2 : Int32))).bind fun v3 => if a2 = (3 : Int32) then jn (fun (S5 : ST) => (E_X10_addThin n S5 w v2.1 v3.1).bind fun S7 => some S7) fun j8 => if v2.1 = v3.1 then (E_X8_refuse n v3.2 (5 : Int32) (a3 + (2 : Int32))).bind fun S11 => j8 S11 else j8 v3.2 else (E_X8_within n v3.2 (a3 + (3 : Int32)) (0 : Int32) (23 : Int32)).bind fun v12 => (E_X8_within n v12.2 (a3 + (4 : Int32)) v12.1 (23 : Int32)).bind fun v13 => (E_X10_addStay n v13.2 w v2.1 v3.1 v12.1 v13.1).bind fun S15 => some S15) fun j16 => if a2 = (3 : Int32) then j16 (0 : Int32) else j16 (1 : Int32)
set_option maxRecDepth 100000 in
set_option maxHeartbeats 4000000 in
theorem E_X8_tellPlacing_ok {n : Nat} (hn : 30000 ≤ n) {K : AK} {R : Nat → Nat → Option Nat} {S : ST} {w : Nat} {a2 : Int32} {a3 : Int32} {tz en : Nat} (hL : Lay K R tz en) (hw : LW K R w) {o : ST} (h : E_X8_tellPlacing n S w a2 a3 = some o) : F_X8_tellPlacing n (mkM K R S) 18 w a2 a3 = some (mkM K R o) := by
  unfold E_X8_tellPlacing at h
  unfold F_X8_tellPlacing
  refine eJN (fun j16 fj16 => ∀ (u1 : Int32), j16 u1 = some o → fj16 u1 = some (mkM K R o)) h ?_ ?_
  · intro u1 h
    refine eCwiV (kd_18 hL) (Nat.le_of_ble_eq_true rfl) (fun _ hv => E_X8_oldName_ok hn hL hv) h (fun v2 h => ?_)
    refine eCwiV (kd_18 hL) (Nat.le_of_ble_eq_true rfl) (fun _ hv => E_X8_oldName_ok hn hL hv) h (fun v3 h => ?_)
    refine eIF h (fun c4 h => ?_) (fun c4 h => ?_)
    · refine eJN (fun j8 fj8 => ∀ (S5 : ST), j8 S5 = some o → fj8 (mkM K R S5) = some (mkM K R o)) h ?_ ?_
      · intro S5 h
        refine eCwV (kW_0 hw) (k8W 0 hw) (fun _ hv => E_X10_addThin_ok hn hL hw hv) h (fun S7 h => ?_)
        exact eLeaf (θ := (fun (o : ST) => (mkM K R o))) h rfl
      · intro j8 fj8 Jj8 h
        refine eIF h (fun c9 h => ?_) (fun c9 h => ?_)
        · refine eCwV (kd_18 hL) (Nat.le_of_ble_eq_true rfl) (fun _ hv => E_X8_refuse_ok hn hL hv) h (fun S11 h => ?_)
          exact Jj8 _ h
        · exact Jj8 _ h
    · refine eCwiV (kd_18 hL) (Nat.le_of_ble_eq_true rfl) (fun _ hv => E_X8_within_ok hn hL hv) h (fun v12 h => ?_)
      refine eCwiV (kd_18 hL) (Nat.le_of_ble_eq_true rfl) (fun _ hv => E_X8_within_ok hn hL hv) h (fun v13 h => ?_)
      refine eCwV (kW_0 hw) (k8W 0 hw) (fun _ hv => E_X10_addStay_ok hn hL hw hv) h (fun S15 h => ?_)
      exact eLeaf (θ := (fun (o : ST) => (mkM K R o))) h rfl
  · intro j16 fj16 Jj16 h
    refine eIF h (fun c17 h => ?_) (fun c17 h => ?_)
    · exact Jj16 _ h
    · exact Jj16 _ h
-- OnlyUpward$World.addKnown(II)V
set_option maxRecDepth 100000 in
set_option maxHeartbeats 4000000 in
def E_X10_addKnown (n : Nat) (S : ST) (w : Nat) (a1 : Int32) (a2 : Int32) : Option ST :=
  (rd (S.1 (w + 1)) 11 (5 : Int32)).bind fun v1 => (wr S (w + 1) 11 (5 : Int32) (v1 + (1 : Int32))).bind fun S2 => (rd (S2.1 (w + 6)) 10 a1).bind fun v3 => (wr S2 (w + 6) 10 a1 (v3 ||| ((1 : Int32) <<< (a2 &&& 31)))).bind fun S4 => some S4
set_option maxRecDepth 100000 in
set_option maxHeartbeats 4000000 in
theorem E_X10_addKnown_ok {n : Nat} (hn : 30000 ≤ n) {K : AK} {R : Nat → Nat → Option Nat} {S : ST} {w : Nat} {a1 : Int32} {a2 : Int32} {tz en : Nat} (hL : Lay K R tz en) (hw : LW K R w) {o : ST} (h : E_X10_addKnown n S w a1 a2 = some o) : F_X10_addKnown n (mkM K R S) w a1 a2 = some (mkM K R o) := by
  unfold E_X10_addKnown at h
  unfold F_X10_addKnown
  refine eGR (kW_0 hw) (k8W 0 hw) (rW_0_0 hw) ?_
  refine eRI (kW_1 hw) h (fun v1 h => ?_)
  refine eWI (kW_1 hw) (k8W 1 hw) h (fun S2 h => ?_)
  refine eGR (kW_0 hw) (k8W 0 hw) (rW_0_5 hw) ?_
  refine eRI (kW_6 hw) h (fun v3 h => ?_)
  refine eWI (kW_6 hw) (k8W 6 hw) h (fun S4 h => ?_)
  exact eLeaf (θ := (fun (o : ST) => (mkM K R o))) h rfl
-- OnlyUpward$World.addMust(III)V
set_option maxRecDepth 100000 in
set_option maxHeartbeats 4000000 in
def E_X10_addMust (n : Nat) (S : ST) (w : Nat) (a1 : Int32) (a2 : Int32) (a3 : Int32) : Option ST :=
  (rd (S.1 (w + 1)) 11 (6 : Int32)).bind fun v1 => if (12 : Int32) ≤ v1 then some S else (wr S (w + 7) 12 v1 a1).bind fun S3 => (wr S3 (w + 8) 12 v1 a2).bind fun S4 => (wr S4 (w + 9) 12 v1 a3).bind fun S5 => (rd (S5.1 (w + 1)) 11 (6 : Int32)).bind fun v6 => (wr S5 (w + 1) 11 (6 : Int32) (v6 + (1 : Int32))).bind fun S7 => some S7
set_option maxRecDepth 100000 in
set_option maxHeartbeats 4000000 in
theorem E_X10_addMust_ok {n : Nat} (hn : 30000 ≤ n) {K : AK} {R : Nat → Nat → Option Nat} {S : ST} {w : Nat} {a1 : Int32} {a2 : Int32} {a3 : Int32} {tz en : Nat} (hL : Lay K R tz en) (hw : LW K R w) {o : ST} (h : E_X10_addMust n S w a1 a2 a3 = some o) : F_X10_addMust n (mkM K R S) w a1 a2 a3 = some (mkM K R o) := by
  unfold E_X10_addMust at h
  unfold F_X10_addMust
  refine eGR (kW_0 hw) (k8W 0 hw) (rW_0_0 hw) ?_
  refine eRI (kW_1 hw) h (fun v1 h => ?_)
  refine eIF h (fun c2 h => ?_) (fun c2 h => ?_)
  · exact eLeaf (θ := (fun (o : ST) => (mkM K R o))) h rfl
  · refine eGR (kW_0 hw) (k8W 0 hw) (rW_0_6 hw) ?_
    refine eWI (kW_7 hw) (k8W 7 hw) h (fun S3 h => ?_)
    refine eGR (kW_0 hw) (k8W 0 hw) (rW_0_7 hw) ?_
    refine eWI (kW_8 hw) (k8W 8 hw) h (fun S4 h => ?_)
    refine eGR (kW_0 hw) (k8W 0 hw) (rW_0_8 hw) ?_
    refine eWI (kW_9 hw) (k8W 9 hw) h (fun S5 h => ?_)
    refine eGR (kW_0 hw) (k8W 0 hw) (rW_0_0 hw) ?_
    refine eRI (kW_1 hw) h (fun v6 h => ?_)
    refine eWI (kW_1 hw) (k8W 1 hw) h (fun S7 h => ?_)
    exact eLeaf (θ := (fun (o : ST) => (mkM K R o))) h rfl
-- OnlyUpward$Teller.tellKnowing(LOnlyUpward$World;II)V
set_option maxRecDepth 100000 in
set_option maxHeartbeats 4000000 in
def E_X8_tellKnowing (n : Nat) (S : ST) (w : Nat) (a2 : Int32) (a3 : Int32) : Option ST :=
  (E_X8_oldName n S (1 : Int32) (a3 + (1 : Int32))).bind fun v1 => (E_X8_oldName n v1.2 (2 : Int32) (a3 + (2 : Int32))).bind fun v2 => if a2 = (5 : Int32) then (E_X10_addKnown n v2.2 w v1.1 v2.1).bind fun S5 => some S5 else (E_X8_within n v2.2 (a3 + (3 : Int32)) (0 : Int32) (23 : Int32)).bind fun v6 => (E_X10_addMust n v6.2 w v1.1 v2.1 v6.1).bind fun S8 => some S8
set_option maxRecDepth 100000 in
set_option maxHeartbeats 4000000 in
theorem E_X8_tellKnowing_ok {n : Nat} (hn : 30000 ≤ n) {K : AK} {R : Nat → Nat → Option Nat} {S : ST} {w : Nat} {a2 : Int32} {a3 : Int32} {tz en : Nat} (hL : Lay K R tz en) (hw : LW K R w) {o : ST} (h : E_X8_tellKnowing n S w a2 a3 = some o) : F_X8_tellKnowing n (mkM K R S) 18 w a2 a3 = some (mkM K R o) := by
  unfold E_X8_tellKnowing at h
  unfold F_X8_tellKnowing
  refine eCwiV (kd_18 hL) (Nat.le_of_ble_eq_true rfl) (fun _ hv => E_X8_oldName_ok hn hL hv) h (fun v1 h => ?_)
  refine eCwiV (kd_18 hL) (Nat.le_of_ble_eq_true rfl) (fun _ hv => E_X8_oldName_ok hn hL hv) h (fun v2 h => ?_)
  refine eIF h (fun c3 h => ?_) (fun c3 h => ?_)
  · refine eCwV (kW_0 hw) (k8W 0 hw) (fun _ hv => E_X10_addKnown_ok hn hL hw hv) h (fun S5 h => ?_)
    exact eLeaf (θ := (fun (o : ST) => (mkM K R o))) h rfl
  · refine eCwiV (kd_18 hL) (Nat.le_of_ble_eq_true rfl) (fun _ hv => E_X8_within_ok hn hL hv) h (fun v6 h => ?_)
    refine eCwV (kW_0 hw) (k8W 0 hw) (fun _ hv => E_X10_addMust_ok hn hL hw hv) h (fun S8 h => ?_)
    exact eLeaf (θ := (fun (o : ST) => (mkM K R o))) h rfl
-- OnlyUpward$World.addAct(II)V
set_option maxRecDepth 100000 in
set_option maxHeartbeats 4000000 in
def E_X10_addAct (n : Nat) (S : ST) (w : Nat) (a1 : Int32) (a2 : Int32) : Option ST :=
  (rd (S.1 (w + 1)) 11 (7 : Int32)).bind fun v1 => if (6 : Int32) ≤ v1 then some S else (wr S (w + 10) 6 v1 a1).bind fun S3 => (wr S3 (w + 11) 6 v1 a2).bind fun S4 => (rd (S4.1 (w + 1)) 11 (7 : Int32)).bind fun v5 => (wr S4 (w + 1) 11 (7 : Int32) (v5 + (1 : Int32))).bind fun S6 => some S6
set_option maxRecDepth 100000 in
set_option maxHeartbeats 4000000 in
theorem E_X10_addAct_ok {n : Nat} (hn : 30000 ≤ n) {K : AK} {R : Nat → Nat → Option Nat} {S : ST} {w : Nat} {a1 : Int32} {a2 : Int32} {tz en : Nat} (hL : Lay K R tz en) (hw : LW K R w) {o : ST} (h : E_X10_addAct n S w a1 a2 = some o) : F_X10_addAct n (mkM K R S) w a1 a2 = some (mkM K R o) := by
  unfold E_X10_addAct at h
  unfold F_X10_addAct
  refine eGR (kW_0 hw) (k8W 0 hw) (rW_0_0 hw) ?_
  refine eRI (kW_1 hw) h (fun v1 h => ?_)
  refine eIF h (fun c2 h => ?_) (fun c2 h => ?_)
  · exact eLeaf (θ := (fun (o : ST) => (mkM K R o))) h rfl
  · refine eGR (kW_0 hw) (k8W 0 hw) (rW_0_9 hw) ?_
    refine eWI (kW_10 hw) (k8W 10 hw) h (fun S3 h => ?_)
    refine eGR (kW_0 hw) (k8W 0 hw) (rW_0_10 hw) ?_
    refine eWI (kW_11 hw) (k8W 11 hw) h (fun S4 h => ?_)
    refine eGR (kW_0 hw) (k8W 0 hw) (rW_0_0 hw) ?_
    refine eRI (kW_1 hw) h (fun v5 h => ?_)
    refine eWI (kW_1 hw) (k8W 1 hw) h (fun S6 h => ?_)
    exact eLeaf (θ := (fun (o : ST) => (mkM K R o))) h rfl
-- OnlyUpward.hasBit(II)Z
set_option maxRecDepth 100000 in
set_option maxHeartbeats 4000000 in
def E_X11_hasBit (n : Nat) (S : ST) (a0 : Int32) (a1 : Int32) : Option Int32 :=
  if ((ush a0 a1) &&& (1 : Int32)) = (1 : Int32) then some (1 : Int32) else some (0 : Int32)
set_option maxRecDepth 100000 in
set_option maxHeartbeats 4000000 in
theorem E_X11_hasBit_ok {n : Nat} (hn : 30000 ≤ n) {K : AK} {R : Nat → Nat → Option Nat} {S : ST} {a0 : Int32} {a1 : Int32} {tz en : Nat} (hL : Lay K R tz en) {o : Int32} (h : E_X11_hasBit n S a0 a1 = some o) : F_X11_hasBit n (mkM K R S) a0 a1 = some o := by
  unfold E_X11_hasBit at h
  unfold F_X11_hasBit
  refine eIF h (fun c1 h => ?_) (fun c1 h => ?_)
  · exact eLeaf (θ := (fun (o : Int32) => o)) h rfl
  · exact eLeaf (θ := (fun (o : Int32) => o)) h rfl
-- OnlyUpward$Teller.taskThings(I)I
set_option maxRecDepth 100000 in
set_option maxHeartbeats 4000000 in
def E_X8_taskThings (n : Nat) (S : ST) (a1 : Int32) : Option (Int32 × ST) :=
  (iter (fun (s1 : Int32 × Int32 × ST) => if (s1.2.2.1 10 4) ≤ s1.2.1 then some (.inr (s1.1, s1.2.2)) else (E_X9_kindAt n s1.2.2 s1.2.1).bind fun v3 => if v3 = (20 : Int32) then (E_X8_oldName n s1.2.2 (2 : Int32) s1.2.1).bind fun v5 => (E_X11_hasBit n v5.2 s1.1 v5.1).bind fun v6 => jn (fun (S7 : ST) => some (.inl ((s1.1 ||| ((1 : Int32) <<< (v5.1 &&& 31))), (s1.2.1 + (2 : Int32)), S7))) fun j8 => if v6 = 0 then j8 v5.2 else (E_X8_refuse n v5.2 (3 : Int32) s1.2.1).bind fun S11 => j8 S11 else some (.inr (s1.1, s1.2.2))) n ((0 : Int32), a1, S)).bind fun (e1 : Int32 × ST) => some (e1.1, e1.2)
set_option maxRecDepth 100000 in
set_option maxHeartbeats 4000000 in
theorem E_X8_taskThings_ok {n : Nat} (hn : 30000 ≤ n) {K : AK} {R : Nat → Nat → Option Nat} {S : ST} {a1 : Int32} {tz en : Nat} (hL : Lay K R tz en) {o : (Int32 × ST)} (h : E_X8_taskThings n S a1 = some o) : F_X8_taskThings n (mkM K R S) 18 a1 = some (o.1, mkM K R o.2) := by
  unfold E_X8_taskThings at h
  unfold F_X8_taskThings
  refine eLP (fun (s1 : Int32 × Int32 × ST) => (s1.1, s1.2.1, mkM K R s1.2.2)) (fun (e1 : Int32 × ST) => (e1.1, mkM K R e1.2)) h rfl ?_ ?_
  · intro s1 x1 h
    refine eGR (kd_18 hL) (Nat.le_of_ble_eq_true rfl) (rd_18_0 hL) ?_
    refine eGI (kd_10 hL) (Nat.le_of_ble_eq_true rfl) ?_
    refine eIF h (fun c2 h => ?_) (fun c2 h => ?_)
    · exact eLeaf (θ := (Sum.map (fun (s1 : Int32 × Int32 × ST) => (s1.1, s1.2.1, mkM K R s1.2.2)) (fun (e1 : Int32 × ST) => (e1.1, mkM K R e1.2)))) h rfl
    · refine eGR (kd_18 hL) (Nat.le_of_ble_eq_true rfl) (rd_18_0 hL) ?_
      refine eCV (kd_10 hL) (Nat.le_of_ble_eq_true rfl) (fun _ hv => E_X9_kindAt_ok hn hL hv) h (fun v3 h => ?_)
      refine eIF h (fun c4 h => ?_) (fun c4 h => ?_)
      · refine eCwiV (kd_18 hL) (Nat.le_of_ble_eq_true rfl) (fun _ hv => E_X8_oldName_ok hn hL hv) h (fun v5 h => ?_)
        refine eCS (fun _ hv => E_X11_hasBit_ok hn hL hv) h (fun v6 h => ?_)
        refine eJN (fun j8 fj8 => ∀ (S7 : ST), j8 S7 = some x1 → fj8 (mkM K R S7) = some (Sum.map (fun (s1 : Int32 × Int32 × ST) => (s1.1, s1.2.1, mkM K R s1.2.2)) (fun (e1 : Int32 × ST) => (e1.1, mkM K R e1.2)) x1)) h ?_ ?_
        · intro S7 h
          exact eLeaf (θ := (Sum.map (fun (s1 : Int32 × Int32 × ST) => (s1.1, s1.2.1, mkM K R s1.2.2)) (fun (e1 : Int32 × ST) => (e1.1, mkM K R e1.2)))) h rfl
        · intro j8 fj8 Jj8 h
          refine eIF h (fun c9 h => ?_) (fun c9 h => ?_)
          · exact Jj8 _ h
          · refine eCwV (kd_18 hL) (Nat.le_of_ble_eq_true rfl) (fun _ hv => E_X8_refuse_ok hn hL hv) h (fun S11 h => ?_)
            exact Jj8 _ h
      · exact eLeaf (θ := (Sum.map (fun (s1 : Int32 × Int32 × ST) => (s1.1, s1.2.1, mkM K R s1.2.2)) (fun (e1 : Int32 × ST) => (e1.1, mkM K R e1.2)))) h rfl
  · intro e1 h
    exact eLeaf (θ := (fun (o : (Int32 × ST)) => (o.1, mkM K R o.2))) h rfl
-- OnlyUpward$World.addTask(I)V
set_option maxRecDepth 100000 in
set_option maxHeartbeats 4000000 in
def E_X10_addTask (n : Nat) (S : ST) (w : Nat) (a1 : Int32) : Option ST :=
  (rd (S.1 (w + 1)) 11 (8 : Int32)).bind fun v1 => if (4 : Int32) ≤ v1 then some S else (wr S (w + 12) 4 v1 a1).bind fun S3 => (rd (S3.1 (w + 1)) 11 (8 : Int32)).bind fun v4 => (wr S3 (w + 1) 11 (8 : Int32) (v4 + (1 : Int32))).bind fun S5 => some S5
set_option maxRecDepth 100000 in
set_option maxHeartbeats 4000000 in
theorem E_X10_addTask_ok {n : Nat} (hn : 30000 ≤ n) {K : AK} {R : Nat → Nat → Option Nat} {S : ST} {w : Nat} {a1 : Int32} {tz en : Nat} (hL : Lay K R tz en) (hw : LW K R w) {o : ST} (h : E_X10_addTask n S w a1 = some o) : F_X10_addTask n (mkM K R S) w a1 = some (mkM K R o) := by
  unfold E_X10_addTask at h
  unfold F_X10_addTask
  refine eGR (kW_0 hw) (k8W 0 hw) (rW_0_0 hw) ?_
  refine eRI (kW_1 hw) h (fun v1 h => ?_)
  refine eIF h (fun c2 h => ?_) (fun c2 h => ?_)
  · exact eLeaf (θ := (fun (o : ST) => (mkM K R o))) h rfl
  · refine eGR (kW_0 hw) (k8W 0 hw) (rW_0_11 hw) ?_
    refine eWI (kW_12 hw) (k8W 12 hw) h (fun S3 h => ?_)
    refine eGR (kW_0 hw) (k8W 0 hw) (rW_0_0 hw) ?_
    refine eRI (kW_1 hw) h (fun v4 h => ?_)
    refine eWI (kW_1 hw) (k8W 1 hw) h (fun S5 h => ?_)
    exact eLeaf (θ := (fun (o : ST) => (mkM K R o))) h rfl
-- OnlyUpward$Teller.tellOne(LOnlyUpward$World;I)V
set_option maxRecDepth 100000 in
set_option maxHeartbeats 4000000 in
def E_X8_tellOne (n : Nat) (S : ST) (w : Nat) (a2 : Int32) : Option ST :=
  (E_X9_kindAt n S a2).bind fun v1 => jn ((rd (S.1 (w + 1)) 11 v1).bind fun v2 => (wr S (w + 1) 11 v1 (v2 + (1 : Int32))).bind fun S3 => some S3) fun j4 => jn ((E_X8_tellKnowing n S w v1 a2).bind fun S6 => some S6) fun j7 => jn ((E_X8_tellPlacing n S w v1 a2).bind fun S9 => some S9) fun j10 => jn ((E_X8_tellBeing n S w v1 a2).bind fun S12 => some S12) fun j13 => if v1 = (0 : Int32) then j13 else if v1 = (1 : Int32) then j13 else if v1 = (2 : Int32) then j13 else if v1 = (3 : Int32) then j10 else if v1 = (4 : Int32) then j10 else if v1 = (5 : Int32) then j7 else if v1 = (6 : Int32) then j7 else if v1 = (7 : Int32) then (E_X8_newName n S w (7 : Int32) (a2 + (1 : Int32))).bind fun S23 => (E_X8_oldName n S23 (2 : Int32) (a2 + (2 : Int32))).bind fun v24 => (E_X8_within n v24.2 (a2 + (3 : Int32)) (1 : Int32) (99 : Int32)).bind fun v25 => (E_X10_addAct n v25.2 w v24.1 v25.1).bind fun S27 => some S27 else if v1 = (8 : Int32) then (E_X8_newName n S w (8 : Int32) (a2 + (1 : Int32))).bind fun S30 => (E_X8_taskThings n S30 (a2 + (2 : Int32))).bind fun v31 => (E_X10_addTask n v31.2 w v31.1).bind fun S33 => some S33 else if v1 = (9 : Int32) then j4 else if v1 = (10 : Int32) then j4 else some S
set_option maxRecDepth 100000 in
set_option maxHeartbeats 4000000 in
theorem E_X8_tellOne_ok {n : Nat} (hn : 30000 ≤ n) {K : AK} {R : Nat → Nat → Option Nat} {S : ST} {w : Nat} {a2 : Int32} {tz en : Nat} (hL : Lay K R tz en) (hw : LW K R w) {o : ST} (h : E_X8_tellOne n S w a2 = some o) : F_X8_tellOne n (mkM K R S) 18 w a2 = some (mkM K R o) := by
  unfold E_X8_tellOne at h
  unfold F_X8_tellOne
  refine eGR (kd_18 hL) (Nat.le_of_ble_eq_true rfl) (rd_18_0 hL) ?_
  refine eCV (kd_10 hL) (Nat.le_of_ble_eq_true rfl) (fun _ hv => E_X9_kindAt_ok hn hL hv) h (fun v1 h => ?_)
  refine eJN (fun j4 fj4 => j4 = some o → fj4 = some (mkM K R o)) h ?_ ?_
  · intro h
    refine eGR (kW_0 hw) (k8W 0 hw) (rW_0_0 hw) ?_
    refine eRI (kW_1 hw) h (fun v2 h => ?_)
    refine eWI (kW_1 hw) (k8W 1 hw) h (fun S3 h => ?_)
    exact eLeaf (θ := (fun (o : ST) => (mkM K R o))) h rfl
  · intro j4 fj4 Jj4 h
    refine eJN (fun j7 fj7 => j7 = some o → fj7 = some (mkM K R o)) h ?_ ?_
    · intro h
      refine eCwV (kd_18 hL) (Nat.le_of_ble_eq_true rfl) (fun _ hv => E_X8_tellKnowing_ok hn hL hw hv) h (fun S6 h => ?_)
      exact eLeaf (θ := (fun (o : ST) => (mkM K R o))) h rfl
    · intro j7 fj7 Jj7 h
      refine eJN (fun j10 fj10 => j10 = some o → fj10 = some (mkM K R o)) h ?_ ?_
      · intro h
        refine eCwV (kd_18 hL) (Nat.le_of_ble_eq_true rfl) (fun _ hv => E_X8_tellPlacing_ok hn hL hw hv) h (fun S9 h => ?_)
        exact eLeaf (θ := (fun (o : ST) => (mkM K R o))) h rfl
      · intro j10 fj10 Jj10 h
        refine eJN (fun j13 fj13 => j13 = some o → fj13 = some (mkM K R o)) h ?_ ?_
        · intro h
          refine eCwV (kd_18 hL) (Nat.le_of_ble_eq_true rfl) (fun _ hv => E_X8_tellBeing_ok hn hL hw hv) h (fun S12 h => ?_)
          exact eLeaf (θ := (fun (o : ST) => (mkM K R o))) h rfl
        · intro j13 fj13 Jj13 h
          refine eIF h (fun c14 h => ?_) (fun c14 h => ?_)
          · exact Jj13 h
          · refine eIF h (fun c15 h => ?_) (fun c15 h => ?_)
            · exact Jj13 h
            · refine eIF h (fun c16 h => ?_) (fun c16 h => ?_)
              · exact Jj13 h
              · refine eIF h (fun c17 h => ?_) (fun c17 h => ?_)
                · exact Jj10 h
                · refine eIF h (fun c18 h => ?_) (fun c18 h => ?_)
                  · exact Jj10 h
                  · refine eIF h (fun c19 h => ?_) (fun c19 h => ?_)
                    · exact Jj7 h
                    · refine eIF h (fun c20 h => ?_) (fun c20 h => ?_)
                      · exact Jj7 h
                      · refine eIF h (fun c21 h => ?_) (fun c21 h => ?_)
                        · refine eCwV (kd_18 hL) (Nat.le_of_ble_eq_true rfl) (fun _ hv => E_X8_newName_ok hn hL hw hv) h (fun S23 h => ?_)
                          refine eCwiV (kd_18 hL) (Nat.le_of_ble_eq_true rfl) (fun _ hv => E_X8_oldName_ok hn hL hv) h (fun v24 h => ?_)
                          refine eCwiV (kd_18 hL) (Nat.le_of_ble_eq_true rfl) (fun _ hv => E_X8_within_ok hn hL hv) h (fun v25 h => ?_)
                          refine eCwV (kW_0 hw) (k8W 0 hw) (fun _ hv => E_X10_addAct_ok hn hL hw hv) h (fun S27 h => ?_)
                          exact eLeaf (θ := (fun (o : ST) => (mkM K R o))) h rfl
                        · refine eIF h (fun c28 h => ?_) (fun c28 h => ?_)
                          · refine eCwV (kd_18 hL) (Nat.le_of_ble_eq_true rfl) (fun _ hv => E_X8_newName_ok hn hL hw hv) h (fun S30 h => ?_)
                            refine eCwiV (kd_18 hL) (Nat.le_of_ble_eq_true rfl) (fun _ hv => E_X8_taskThings_ok hn hL hv) h (fun v31 h => ?_)
                            refine eCwV (kW_0 hw) (k8W 0 hw) (fun _ hv => E_X10_addTask_ok hn hL hw hv) h (fun S33 h => ?_)
                            exact eLeaf (θ := (fun (o : ST) => (mkM K R o))) h rfl
                          · refine eIF h (fun c34 h => ?_) (fun c34 h => ?_)
                            · exact Jj4 h
                            · refine eIF h (fun c35 h => ?_) (fun c35 h => ?_)
                              · exact Jj4 h
                              · exact eLeaf (θ := (fun (o : ST) => (mkM K R o))) h rfl
-- OnlyUpward$Teller.tellAll(LOnlyUpward$World;)I
set_option maxRecDepth 100000 in
set_option maxHeartbeats 4000000 in
def E_X8_tellAll (n : Nat) (S : ST) (w : Nat) : Option (Int32 × ST) :=
  lets (upI S 18 4 (0 : Int32)) fun (S1 : ST) => lets (upI S1 18 5 (0 : Int32)) fun (S2 : ST) => (iter (fun (s3 : Int32 × Int32 × ST) => if (s3.2.2.1 10 4) ≤ s3.2.1 then some (.inr s3.2.2) else if (s3.2.2.1 18 5) = 0 then jn (fun (S6 : ST) => (E_X9_kindAt n S6 s3.2.1).bind fun v7 => jn (fun (u8 : Int32) => some (.inl (u8, (s3.2.1 + (1 : Int32)), S6))) fun j9 => if v7 = (22 : Int32) then j9 (1 : Int32) else j9 (0 : Int32)) fun j11 => if s3.1 = 0 then j11 s3.2.2 else (E_X8_tellOne n s3.2.2 w s3.2.1).bind fun S14 => j11 S14 else some (.inr s3.2.2)) n ((1 : Int32), (0 : Int32), S2)).bind fun (e3 : ST) => some ((e3.1 18 5), e3)
set_option maxRecDepth 100000 in
set_option maxHeartbeats 4000000 in
theorem E_X8_tellAll_ok {n : Nat} (hn : 30000 ≤ n) {K : AK} {R : Nat → Nat → Option Nat} {S : ST} {w : Nat} {tz en : Nat} (hL : Lay K R tz en) (hw : LW K R w) {o : (Int32 × ST)} (h : E_X8_tellAll n S w = some o) : F_X8_tellAll n (mkM K R S) 18 w = some (o.1, mkM K R o.2) := by
  unfold E_X8_tellAll at h
  unfold F_X8_tellAll
  refine ePI (kd_18 hL) (Nat.le_of_ble_eq_true rfl) h (fun S1 h => ?_)
  refine ePI (kd_18 hL) (Nat.le_of_ble_eq_true rfl) h (fun S2 h => ?_)
  refine eLP (fun (s3 : Int32 × Int32 × ST) => (s3.1, s3.2.1, mkM K R s3.2.2)) (fun (e3 : ST) => mkM K R e3) h rfl ?_ ?_
  · intro s3 x3 h
    refine eGR (kd_18 hL) (Nat.le_of_ble_eq_true rfl) (rd_18_0 hL) ?_
    refine eGI (kd_10 hL) (Nat.le_of_ble_eq_true rfl) ?_
    refine eIF h (fun c4 h => ?_) (fun c4 h => ?_)
    · exact eLeaf (θ := (Sum.map (fun (s3 : Int32 × Int32 × ST) => (s3.1, s3.2.1, mkM K R s3.2.2)) (fun (e3 : ST) => mkM K R e3))) h rfl
    · refine eGI (kd_18 hL) (Nat.le_of_ble_eq_true rfl) ?_
      refine eIF h (fun c5 h => ?_) (fun c5 h => ?_)
      · refine eJN (fun j11 fj11 => ∀ (S6 : ST), j11 S6 = some x3 → fj11 (mkM K R S6) = some (Sum.map (fun (s3 : Int32 × Int32 × ST) => (s3.1, s3.2.1, mkM K R s3.2.2)) (fun (e3 : ST) => mkM K R e3) x3)) h ?_ ?_
        · intro S6 h
          refine eGR (kd_18 hL) (Nat.le_of_ble_eq_true rfl) (rd_18_0 hL) ?_
          refine eCV (kd_10 hL) (Nat.le_of_ble_eq_true rfl) (fun _ hv => E_X9_kindAt_ok hn hL hv) h (fun v7 h => ?_)
          refine eJN (fun j9 fj9 => ∀ (u8 : Int32), j9 u8 = some x3 → fj9 u8 = some (Sum.map (fun (s3 : Int32 × Int32 × ST) => (s3.1, s3.2.1, mkM K R s3.2.2)) (fun (e3 : ST) => mkM K R e3) x3)) h ?_ ?_
          · intro u8 h
            exact eLeaf (θ := (Sum.map (fun (s3 : Int32 × Int32 × ST) => (s3.1, s3.2.1, mkM K R s3.2.2)) (fun (e3 : ST) => mkM K R e3))) h rfl
          · intro j9 fj9 Jj9 h
            refine eIF h (fun c10 h => ?_) (fun c10 h => ?_)
            · exact Jj9 _ h
            · exact Jj9 _ h
        · intro j11 fj11 Jj11 h
          refine eIF h (fun c12 h => ?_) (fun c12 h => ?_)
          · exact Jj11 _ h
          · refine eCwV (kd_18 hL) (Nat.le_of_ble_eq_true rfl) (fun _ hv => E_X8_tellOne_ok hn hL hw hv) h (fun S14 h => ?_)
            exact Jj11 _ h
      · exact eLeaf (θ := (Sum.map (fun (s3 : Int32 × Int32 × ST) => (s3.1, s3.2.1, mkM K R s3.2.2)) (fun (e3 : ST) => mkM K R e3))) h rfl
  · intro e3 h
    refine eGI (kd_18 hL) (Nat.le_of_ble_eq_true rfl) ?_
    exact eLeaf (θ := (fun (o : (Int32 × ST)) => (o.1, mkM K R o.2))) h rfl
-- OnlyUpward$Tokens.placeAt(I)I
set_option maxRecDepth 100000 in
set_option maxHeartbeats 4000000 in
def E_X9_placeAt (n : Nat) (S : ST) (a1 : Int32) : Option Int32 :=
  if a1 < 0 then some (0 : Int32) else if (S.1 10 4) ≤ a1 then some (0 : Int32) else (rd (S.1 12) 402 a1).bind fun v3 => some v3
set_option maxRecDepth 100000 in
set_option maxHeartbeats 4000000 in
theorem E_X9_placeAt_ok {n : Nat} (hn : 30000 ≤ n) {K : AK} {R : Nat → Nat → Option Nat} {S : ST} {a1 : Int32} {tz en : Nat} (hL : Lay K R tz en) {o : Int32} (h : E_X9_placeAt n S a1 = some o) : F_X9_placeAt n (mkM K R S) 10 a1 = some o := by
  unfold E_X9_placeAt at h
  unfold F_X9_placeAt
  refine eIF h (fun c1 h => ?_) (fun c1 h => ?_)
  · exact eLeaf (θ := (fun (o : Int32) => o)) h rfl
  · refine eGI (kd_10 hL) (Nat.le_of_ble_eq_true rfl) ?_
    refine eIF h (fun c2 h => ?_) (fun c2 h => ?_)
    · exact eLeaf (θ := (fun (o : Int32) => o)) h rfl
    · refine eGR (kd_10 hL) (Nat.le_of_ble_eq_true rfl) (rd_10_1 hL) ?_
      refine eRI (kd_12 hL) h (fun v3 h => ?_)
      exact eLeaf (θ := (fun (o : Int32) => o)) h rfl
-- OnlyUpward$World.standersWithin(II)I
set_option maxRecDepth 100000 in
set_option maxHeartbeats 4000000 in
def E_X10_standersWithin (n : Nat) (S : ST) (w : Nat) (a1 : Int32) (a2 : Int32) : Option Int32 :=
  (iter (fun (s1 : Int32 × Int32) => (rd (S.1 (w + 1)) 11 (0 : Int32)).bind fun v2 => if v2 ≤ s1.2 then some (.inr s1.1) else (E_X11_hasBit n S a1 s1.2).bind fun v4 => jn (fun (u5 : Int32) => some (.inl (u5, (s1.2 + (1 : Int32))))) fun j6 => if v4 = 0 then j6 s1.1 else (rd (S.1 (w + 22)) 144 ((s1.2 * (24 : Int32)) + a2)).bind fun v8 => j6 (s1.1 ||| v8)) n ((0 : Int32), (0 : Int32))).bind fun (e1 : Int32) => some e1
set_option maxRecDepth 100000 in
set_option maxHeartbeats 4000000 in
theorem E_X10_standersWithin_ok {n : Nat} (hn : 30000 ≤ n) {K : AK} {R : Nat → Nat → Option Nat} {S : ST} {w : Nat} {a1 : Int32} {a2 : Int32} {tz en : Nat} (hL : Lay K R tz en) (hw : LW K R w) {o : Int32} (h : E_X10_standersWithin n S w a1 a2 = some o) : F_X10_standersWithin n (mkM K R S) w a1 a2 = some o := by
  unfold E_X10_standersWithin at h
  unfold F_X10_standersWithin
  refine eLP (fun (s1 : Int32 × Int32) => s1) (fun (e1 : Int32) => e1) h rfl ?_ ?_
  · intro s1 x1 h
    refine eGR (kW_0 hw) (k8W 0 hw) (rW_0_0 hw) ?_
    refine eRI (kW_1 hw) h (fun v2 h => ?_)
    refine eIF h (fun c3 h => ?_) (fun c3 h => ?_)
    · exact eLeaf (θ := (Sum.map (fun (s1 : Int32 × Int32) => s1) (fun (e1 : Int32) => e1))) h rfl
    · refine eCS (fun _ hv => E_X11_hasBit_ok hn hL hv) h (fun v4 h => ?_)
      refine eJN (fun j6 fj6 => ∀ (u5 : Int32), j6 u5 = some x1 → fj6 u5 = some (Sum.map (fun (s1 : Int32 × Int32) => s1) (fun (e1 : Int32) => e1) x1)) h ?_ ?_
      · intro u5 h
        exact eLeaf (θ := (Sum.map (fun (s1 : Int32 × Int32) => s1) (fun (e1 : Int32) => e1))) h rfl
      · intro j6 fj6 Jj6 h
        refine eIF h (fun c7 h => ?_) (fun c7 h => ?_)
        · exact Jj6 _ h
        · refine eGR (kW_0 hw) (k8W 0 hw) (rW_0_14 hw) ?_
          refine eRI (kW_22 hw) h (fun v8 h => ?_)
          exact Jj6 _ h
  · intro e1 h
    exact eLeaf (θ := (fun (o : Int32) => o)) h rfl
-- OnlyUpward$World.everybody()I
set_option maxRecDepth 100000 in
set_option maxHeartbeats 4000000 in
def E_X10_everybody (n : Nat) (S : ST) (w : Nat) : Option Int32 :=
  (rd (S.1 (w + 1)) 11 (1 : Int32)).bind fun v1 => some (((1 : Int32) <<< (v1 &&& 31)) - (1 : Int32))
set_option maxRecDepth 100000 in
set_option maxHeartbeats 4000000 in
theorem E_X10_everybody_ok {n : Nat} (hn : 30000 ≤ n) {K : AK} {R : Nat → Nat → Option Nat} {S : ST} {w : Nat} {tz en : Nat} (hL : Lay K R tz en) (hw : LW K R w) {o : Int32} (h : E_X10_everybody n S w = some o) : F_X10_everybody n (mkM K R S) w = some o := by
  unfold E_X10_everybody at h
  unfold F_X10_everybody
  refine eGR (kW_0 hw) (k8W 0 hw) (rW_0_0 hw) ?_
  refine eRI (kW_1 hw) h (fun v1 h => ?_)
  exact eLeaf (θ := (fun (o : Int32) => o)) h rfl
-- OnlyUpward$World.placeOf(II)I
set_option maxRecDepth 100000 in
set_option maxHeartbeats 4000000 in
def E_X10_placeOf (n : Nat) (S : ST) (w : Nat) (a1 : Int32) (a2 : Int32) : Option Int32 :=
  (rd (S.1 (w + 21)) 240 ((a1 * (24 : Int32)) + a2)).bind fun v1 => some v1
set_option maxRecDepth 100000 in
set_option maxHeartbeats 4000000 in
theorem E_X10_placeOf_ok {n : Nat} (hn : 30000 ≤ n) {K : AK} {R : Nat → Nat → Option Nat} {S : ST} {w : Nat} {a1 : Int32} {a2 : Int32} {tz en : Nat} (hL : Lay K R tz en) (hw : LW K R w) {o : Int32} (h : E_X10_placeOf n S w a1 a2 = some o) : F_X10_placeOf n (mkM K R S) w a1 a2 = some o := by
  unfold E_X10_placeOf at h
  unfold F_X10_placeOf
  refine eGR (kW_0 hw) (k8W 0 hw) (rW_0_13 hw) ?_
  refine eRI (kW_21 hw) h (fun v1 h => ?_)
  exact eLeaf (θ := (fun (o : Int32) => o)) h rfl
-- OnlyUpward$World.standers(II)I
set_option maxRecDepth 100000 in
set_option maxHeartbeats 4000000 in
def E_X10_standers (n : Nat) (S : ST) (w : Nat) (a1 : Int32) (a2 : Int32) : Option Int32 :=
  if 0 ≤ a1 then (rd (S.1 (w + 22)) 144 ((a1 * (24 : Int32)) + a2)).bind fun v2 => some v2 else some (0 : Int32)
set_option maxRecDepth 100000 in
set_option maxHeartbeats 4000000 in
theorem E_X10_standers_ok {n : Nat} (hn : 30000 ≤ n) {K : AK} {R : Nat → Nat → Option Nat} {S : ST} {w : Nat} {a1 : Int32} {a2 : Int32} {tz en : Nat} (hL : Lay K R tz en) (hw : LW K R w) {o : Int32} (h : E_X10_standers n S w a1 a2 = some o) : F_X10_standers n (mkM K R S) w a1 a2 = some o := by
  unfold E_X10_standers at h
  unfold F_X10_standers
  refine eIF h (fun c1 h => ?_) (fun c1 h => ?_)
  · refine eGR (kW_0 hw) (k8W 0 hw) (rW_0_14 hw) ?_
    refine eRI (kW_22 hw) h (fun v2 h => ?_)
    exact eLeaf (θ := (fun (o : Int32) => o)) h rfl
  · exact eLeaf (θ := (fun (o : Int32) => o)) h rfl
-- OnlyUpward$World.ageAt(II)I
set_option maxRecDepth 100000 in
set_option maxHeartbeats 4000000 in
def E_X10_ageAt (n : Nat) (S : ST) (w : Nat) (a1 : Int32) (a2 : Int32) : Option Int32 :=
  (rd (S.1 (w + 3)) 10 a1).bind fun v1 => if a2 < v1 then (rd (S.1 (w + 2)) 10 a1).bind fun v3 => some v3 else (rd (S.1 (w + 2)) 10 a1).bind fun v4 => some (v4 + (1 : Int32))
set_option maxRecDepth 100000 in
set_option maxHeartbeats 4000000 in
theorem E_X10_ageAt_ok {n : Nat} (hn : 30000 ≤ n) {K : AK} {R : Nat → Nat → Option Nat} {S : ST} {w : Nat} {a1 : Int32} {a2 : Int32} {tz en : Nat} (hL : Lay K R tz en) (hw : LW K R w) {o : Int32} (h : E_X10_ageAt n S w a1 a2 = some o) : F_X10_ageAt n (mkM K R S) w a1 a2 = some o := by
  unfold E_X10_ageAt at h
  unfold F_X10_ageAt
  refine eGR (kW_0 hw) (k8W 0 hw) (rW_0_2 hw) ?_
  refine eRI (kW_3 hw) h (fun v1 h => ?_)
  refine eIF h (fun c2 h => ?_) (fun c2 h => ?_)
  · refine eGR (kW_0 hw) (k8W 0 hw) (rW_0_1 hw) ?_
    refine eRI (kW_2 hw) h (fun v3 h => ?_)
    exact eLeaf (θ := (fun (o : Int32) => o)) h rfl
  · refine eGR (kW_0 hw) (k8W 0 hw) (rW_0_1 hw) ?_
    refine eRI (kW_2 hw) h (fun v4 h => ?_)
    exact eLeaf (θ := (fun (o : Int32) => o)) h rfl
-- OnlyUpward$Laws.combine(III)I
set_option maxRecDepth 100000 in
set_option maxHeartbeats 4000000 in
def E_X4_combine (n : Nat) (S : ST) (a0 : Int32) (a1 : Int32) (a2 : Int32) : Option Int32 :=
  if a0 = (13 : Int32) then some (a1 ||| a2) else if a0 = (14 : Int32) then some (a1 &&& a2) else if a0 = (15 : Int32) then some (0 : Int32) else if a0 = (16 : Int32) then some (0 : Int32) else if a0 = (17 : Int32) then some (0 : Int32) else if a0 = (18 : Int32) then some (0 : Int32) else if a0 = (19 : Int32) then some (0 : Int32) else if a0 = (20 : Int32) then some (0 : Int32) else if a0 = (21 : Int32) then some (0 : Int32) else if a0 = (22 : Int32) then some (0 : Int32) else if a0 = (23 : Int32) then some (0 : Int32) else if a0 = (24 : Int32) then some (a1 + a2) else if a0 = (25 : Int32) then some (a1 - a2) else if a0 = (26 : Int32) then some (a1 * a2) else if a0 = (27 : Int32) then if a2 = 0 then some (0 : Int32) else gd (¬ a2 = 0) (some (a1 / a2)) else if a0 = (28 : Int32) then if a1 = a2 then some (1 : Int32) else some (0 : Int32) else if a0 = (29 : Int32) then if a1 = a2 then some (0 : Int32) else some (1 : Int32) else if a0 = (30 : Int32) then if a2 ≤ a1 then some (0 : Int32) else some (1 : Int32) else if a0 = (31 : Int32) then if a2 < a1 then some (0 : Int32) else some (1 : Int32) else some (0 : Int32)
set_option maxRecDepth 100000 in
set_option maxHeartbeats 4000000 in
theorem E_X4_combine_ok {n : Nat} (hn : 30000 ≤ n) {K : AK} {R : Nat → Nat → Option Nat} {S : ST} {a0 : Int32} {a1 : Int32} {a2 : Int32} {tz en : Nat} (hL : Lay K R tz en) {o : Int32} (h : E_X4_combine n S a0 a1 a2 = some o) : F_X4_combine n (mkM K R S) a0 a1 a2 = some o := by
  unfold E_X4_combine at h
  unfold F_X4_combine
  refine eIF h (fun c1 h => ?_) (fun c1 h => ?_)
  · exact eLeaf (θ := (fun (o : Int32) => o)) h rfl
  · refine eIF h (fun c2 h => ?_) (fun c2 h => ?_)
    · exact eLeaf (θ := (fun (o : Int32) => o)) h rfl
    · refine eIF h (fun c3 h => ?_) (fun c3 h => ?_)
      · exact eLeaf (θ := (fun (o : Int32) => o)) h rfl
      · refine eIF h (fun c4 h => ?_) (fun c4 h => ?_)
        · exact eLeaf (θ := (fun (o : Int32) => o)) h rfl
        · refine eIF h (fun c5 h => ?_) (fun c5 h => ?_)
          · exact eLeaf (θ := (fun (o : Int32) => o)) h rfl
          · refine eIF h (fun c6 h => ?_) (fun c6 h => ?_)
            · exact eLeaf (θ := (fun (o : Int32) => o)) h rfl
            · refine eIF h (fun c7 h => ?_) (fun c7 h => ?_)
              · exact eLeaf (θ := (fun (o : Int32) => o)) h rfl
              · refine eIF h (fun c8 h => ?_) (fun c8 h => ?_)
                · exact eLeaf (θ := (fun (o : Int32) => o)) h rfl
                · refine eIF h (fun c9 h => ?_) (fun c9 h => ?_)
                  · exact eLeaf (θ := (fun (o : Int32) => o)) h rfl
                  · refine eIF h (fun c10 h => ?_) (fun c10 h => ?_)
                    · exact eLeaf (θ := (fun (o : Int32) => o)) h rfl
                    · refine eIF h (fun c11 h => ?_) (fun c11 h => ?_)
                      · exact eLeaf (θ := (fun (o : Int32) => o)) h rfl
                      · refine eIF h (fun c12 h => ?_) (fun c12 h => ?_)
                        · exact eLeaf (θ := (fun (o : Int32) => o)) h rfl
                        · refine eIF h (fun c13 h => ?_) (fun c13 h => ?_)
                          · exact eLeaf (θ := (fun (o : Int32) => o)) h rfl
                          · refine eIF h (fun c14 h => ?_) (fun c14 h => ?_)
                            · exact eLeaf (θ := (fun (o : Int32) => o)) h rfl
                            · refine eIF h (fun c15 h => ?_) (fun c15 h => ?_)
                              · refine eIF h (fun c16 h => ?_) (fun c16 h => ?_)
                                · exact eLeaf (θ := (fun (o : Int32) => o)) h rfl
                                · refine eGD h (fun c17 h => ?_)
                                  exact eLeaf (θ := (fun (o : Int32) => o)) h rfl
                              · refine eIF h (fun c18 h => ?_) (fun c18 h => ?_)
                                · refine eIF h (fun c19 h => ?_) (fun c19 h => ?_)
                                  · exact eLeaf (θ := (fun (o : Int32) => o)) h rfl
                                  · exact eLeaf (θ := (fun (o : Int32) => o)) h rfl
                                · refine eIF h (fun c20 h => ?_) (fun c20 h => ?_)
                                  · refine eIF h (fun c21 h => ?_) (fun c21 h => ?_)
                                    · exact eLeaf (θ := (fun (o : Int32) => o)) h rfl
                                    · exact eLeaf (θ := (fun (o : Int32) => o)) h rfl
                                  · refine eIF h (fun c22 h => ?_) (fun c22 h => ?_)
                                    · refine eIF h (fun c23 h => ?_) (fun c23 h => ?_)
                                      · exact eLeaf (θ := (fun (o : Int32) => o)) h rfl
                                      · exact eLeaf (θ := (fun (o : Int32) => o)) h rfl
                                    · refine eIF h (fun c24 h => ?_) (fun c24 h => ?_)
                                      · refine eIF h (fun c25 h => ?_) (fun c25 h => ?_)
                                        · exact eLeaf (θ := (fun (o : Int32) => o)) h rfl
                                        · exact eLeaf (θ := (fun (o : Int32) => o)) h rfl
                                      · exact eLeaf (θ := (fun (o : Int32) => o)) h rfl
-- OnlyUpward$Laws.holds(I)Z
set_option maxRecDepth 100000 in
set_option maxHeartbeats 4000000 in
def E_X4_holds (n : Nat) (S : ST) (l : Nat) (a1 : Int32) : Option (Int32 × ST) :=
  (rd (S.1 (l + 3)) 8 a1).bind fun v1 => (iter (fun (s2 : Int32 × Int32 × Int32 × ST) => (rd (s2.2.2.2.1 (l + 4)) 8 a1).bind fun v3 => if v3 ≤ s2.2.2.1 then some (.inr (s2.1, s2.2.2.2)) else (rd (s2.2.2.2.1 (l + 1)) 400 s2.2.2.1).bind fun v5 => jn (fun (u6 : Int32) (u7 : Int32) (S8 : ST) => some (.inl (u6, u7, (s2.2.2.1 + (1 : Int32)), S8))) fun j9 => jn (if (32 : Int32) ≤ s2.1 then j9 s2.1 s2.2.1 s2.2.2.2 else jn (fun (u11 : Int32) => (wr s2.2.2.2 (l + 7) 32 s2.1 u11).bind fun S12 => j9 (s2.1 + (1 : Int32)) s2.2.1 S12) fun j13 => if v5 = (21 : Int32) then (rd (s2.2.2.2.1 (l + 2)) 400 s2.2.2.1).bind fun v15 => j13 v15 else (rd (s2.2.2.2.1 (l + 6)) 4 (v5 - (16 : Int32))).bind fun v16 => j13 v16) fun j17 => if v5 = (21 : Int32) then j17 else jn (jn (if s2.1 ≤ (1 : Int32) then j9 s2.1 s2.2.1 s2.2.2.2 else (rd (s2.2.2.2.1 (l + 7)) 32 (s2.1 + (-1 : Int32))).bind fun v20 => jn (fun (u21 : Int32) => (rd (s2.2.2.2.1 (l + 7)) 32 ((s2.1 + (-1 : Int32)) - (1 : Int32))).bind fun v22 => (E_X4_combine n s2.2.2.2 v5 v22 v20).bind fun v23 => (E_X2_isComparison n s2.2.2.2 v5).bind fun v24 => jn (fun (u25 : Int32) (u26 : Int32) => (wr s2.2.2.2 (l + 7) 32 ((s2.1 + (-1 : Int32)) - (1 : Int32)) u26).bind fun S27 => j9 (s2.1 + (-1 : Int32)) u25 S27) fun j28 => if v24 = 0 then j28 u21 v23 else jn (fun (u30 : Int32) => j28 (0 : Int32) u30) fun j31 => if u21 = 0 then j31 v23 else j31 (0 : Int32)) fun j33 => jn (j33 (1 : Int32)) fun j34 => if s2.2.1 = 0 then jn (j33 (0 : Int32)) fun j36 => if v5 = (27 : Int32) then if v20 = 0 then j34 else j36 else j36 else j34) fun j39 => if v5 = (15 : Int32) then if s2.1 ≤ 0 then j39 else (rd (s2.2.2.2.1 (l + 7)) 32 (s2.1 - (1 : Int32))).bind fun v42 => (wr s2.2.2.2 (l + 7) 32 (s2.1 - (1 : Int32)) ((1 : Int32) - v42)).bind fun S43 => j9 s2.1 s2.2.1 S43 else j39) fun j44 => if v5 < (16 : Int32) then j44 else if (19 : Int32) < v5 then j44 else j17) n ((0 : Int32), (0 : Int32), v1, S)).bind fun (e2 : Int32 × ST) => if e2.1 ≤ 0 then some ((0 : Int32), e2.2) else (rd (e2.2.1 (l + 7)) 32 (0 : Int32)).bind fun v48 => if v48 = 0 then some ((0 : Int32), e2.2) else some ((1 : Int32), e2.2)
set_option maxRecDepth 100000 in
set_option maxHeartbeats 4000000 in
theorem E_X4_holds_ok {n : Nat} (hn : 30000 ≤ n) {K : AK} {R : Nat → Nat → Option Nat} {S : ST} {l : Nat} {a1 : Int32} {tz en : Nat} (hL : Lay K R tz en) (hl : LL K R l) {o : (Int32 × ST)} (h : E_X4_holds n S l a1 = some o) : F_X4_holds n (mkM K R S) l a1 = some (o.1, mkM K R o.2) := by
  unfold E_X4_holds at h
  unfold F_X4_holds
  refine eGR (kL_0 hl) (k8L 0 hl) (rL_0_2 hl) ?_
  refine eRI (kL_3 hl) h (fun v1 h => ?_)
  refine eLP (fun (s2 : Int32 × Int32 × Int32 × ST) => (s2.1, s2.2.1, s2.2.2.1, mkM K R s2.2.2.2)) (fun (e2 : Int32 × ST) => (e2.1, mkM K R e2.2)) h rfl ?_ ?_
  · intro s2 x2 h
    refine eGR (kL_0 hl) (k8L 0 hl) (rL_0_3 hl) ?_
    refine eRI (kL_4 hl) h (fun v3 h => ?_)
    refine eIF h (fun c4 h => ?_) (fun c4 h => ?_)
    · exact eLeaf (θ := (Sum.map (fun (s2 : Int32 × Int32 × Int32 × ST) => (s2.1, s2.2.1, s2.2.2.1, mkM K R s2.2.2.2)) (fun (e2 : Int32 × ST) => (e2.1, mkM K R e2.2)))) h rfl
    · refine eGR (kL_0 hl) (k8L 0 hl) (rL_0_0 hl) ?_
      refine eRI (kL_1 hl) h (fun v5 h => ?_)
      refine eJN (fun j9 fj9 => ∀ (u6 : Int32) (u7 : Int32) (S8 : ST), j9 u6 u7 S8 = some x2 → fj9 u6 u7 (mkM K R S8) = some (Sum.map (fun (s2 : Int32 × Int32 × Int32 × ST) => (s2.1, s2.2.1, s2.2.2.1, mkM K R s2.2.2.2)) (fun (e2 : Int32 × ST) => (e2.1, mkM K R e2.2)) x2)) h ?_ ?_
      · intro u6 u7 S8 h
        exact eLeaf (θ := (Sum.map (fun (s2 : Int32 × Int32 × Int32 × ST) => (s2.1, s2.2.1, s2.2.2.1, mkM K R s2.2.2.2)) (fun (e2 : Int32 × ST) => (e2.1, mkM K R e2.2)))) h rfl
      · intro j9 fj9 Jj9 h
        refine eJN (fun j17 fj17 => j17 = some x2 → fj17 = some (Sum.map (fun (s2 : Int32 × Int32 × Int32 × ST) => (s2.1, s2.2.1, s2.2.2.1, mkM K R s2.2.2.2)) (fun (e2 : Int32 × ST) => (e2.1, mkM K R e2.2)) x2)) h ?_ ?_
        · intro h
          refine eGR (kL_0 hl) (k8L 0 hl) (rL_0_6 hl) ?_
          refine eAL (kL_7 hl) (by decide) ?_
          refine eIF h (fun c10 h => ?_) (fun c10 h => ?_)
          · exact Jj9 _ _ _ h
          · refine eGR (kL_0 hl) (k8L 0 hl) (rL_0_6 hl) ?_
            refine eJN (fun j13 fj13 => ∀ (u11 : Int32), j13 u11 = some x2 → fj13 u11 = some (Sum.map (fun (s2 : Int32 × Int32 × Int32 × ST) => (s2.1, s2.2.1, s2.2.2.1, mkM K R s2.2.2.2)) (fun (e2 : Int32 × ST) => (e2.1, mkM K R e2.2)) x2)) h ?_ ?_
            · intro u11 h
              refine eWI (kL_7 hl) (k8L 7 hl) h (fun S12 h => ?_)
              exact Jj9 _ _ _ h
            · intro j13 fj13 Jj13 h
              refine eIF h (fun c14 h => ?_) (fun c14 h => ?_)
              · refine eGR (kL_0 hl) (k8L 0 hl) (rL_0_1 hl) ?_
                refine eRI (kL_2 hl) h (fun v15 h => ?_)
                exact Jj13 _ h
              · refine eGR (kL_0 hl) (k8L 0 hl) (rL_0_5 hl) ?_
                refine eRI (kL_6 hl) h (fun v16 h => ?_)
                exact Jj13 _ h
        · intro j17 fj17 Jj17 h
          refine eIF h (fun c18 h => ?_) (fun c18 h => ?_)
          · exact Jj17 h
          · refine eJN (fun j44 fj44 => j44 = some x2 → fj44 = some (Sum.map (fun (s2 : Int32 × Int32 × Int32 × ST) => (s2.1, s2.2.1, s2.2.2.1, mkM K R s2.2.2.2)) (fun (e2 : Int32 × ST) => (e2.1, mkM K R e2.2)) x2)) h ?_ ?_
            · intro h
              refine eJN (fun j39 fj39 => j39 = some x2 → fj39 = some (Sum.map (fun (s2 : Int32 × Int32 × Int32 × ST) => (s2.1, s2.2.1, s2.2.2.1, mkM K R s2.2.2.2)) (fun (e2 : Int32 × ST) => (e2.1, mkM K R e2.2)) x2)) h ?_ ?_
              · intro h
                refine eIF h (fun c19 h => ?_) (fun c19 h => ?_)
                · exact Jj9 _ _ _ h
                · refine eGR (kL_0 hl) (k8L 0 hl) (rL_0_6 hl) ?_
                  refine eRI (kL_7 hl) h (fun v20 h => ?_)
                  refine eJN (fun j33 fj33 => ∀ (u21 : Int32), j33 u21 = some x2 → fj33 u21 = some (Sum.map (fun (s2 : Int32 × Int32 × Int32 × ST) => (s2.1, s2.2.1, s2.2.2.1, mkM K R s2.2.2.2)) (fun (e2 : Int32 × ST) => (e2.1, mkM K R e2.2)) x2)) h ?_ ?_
                  · intro u21 h
                    refine eGR (kL_0 hl) (k8L 0 hl) (rL_0_6 hl) ?_
                    refine eRI (kL_7 hl) h (fun v22 h => ?_)
                    refine eCS (fun _ hv => E_X4_combine_ok hn hL hv) h (fun v23 h => ?_)
                    refine eCS (fun _ hv => E_X2_isComparison_ok hn hL hv) h (fun v24 h => ?_)
                    refine eJN (fun j28 fj28 => ∀ (u25 : Int32) (u26 : Int32), j28 u25 u26 = some x2 → fj28 u25 u26 = some (Sum.map (fun (s2 : Int32 × Int32 × Int32 × ST) => (s2.1, s2.2.1, s2.2.2.1, mkM K R s2.2.2.2)) (fun (e2 : Int32 × ST) => (e2.1, mkM K R e2.2)) x2)) h ?_ ?_
                    · intro u25 u26 h
                      refine eGR (kL_0 hl) (k8L 0 hl) (rL_0_6 hl) ?_
                      refine eWI (kL_7 hl) (k8L 7 hl) h (fun S27 h => ?_)
                      exact Jj9 _ _ _ h
                    · intro j28 fj28 Jj28 h
                      refine eIF h (fun c29 h => ?_) (fun c29 h => ?_)
                      · exact Jj28 _ _ h
                      · refine eJN (fun j31 fj31 => ∀ (u30 : Int32), j31 u30 = some x2 → fj31 u30 = some (Sum.map (fun (s2 : Int32 × Int32 × Int32 × ST) => (s2.1, s2.2.1, s2.2.2.1, mkM K R s2.2.2.2)) (fun (e2 : Int32 × ST) => (e2.1, mkM K R e2.2)) x2)) h ?_ ?_
                        · intro u30 h
                          exact Jj28 _ _ h
                        · intro j31 fj31 Jj31 h
                          refine eIF h (fun c32 h => ?_) (fun c32 h => ?_)
                          · exact Jj31 _ h
                          · exact Jj31 _ h
                  · intro j33 fj33 Jj33 h
                    refine eJN (fun j34 fj34 => j34 = some x2 → fj34 = some (Sum.map (fun (s2 : Int32 × Int32 × Int32 × ST) => (s2.1, s2.2.1, s2.2.2.1, mkM K R s2.2.2.2)) (fun (e2 : Int32 × ST) => (e2.1, mkM K R e2.2)) x2)) h ?_ ?_
                    · intro h
                      exact Jj33 _ h
                    · intro j34 fj34 Jj34 h
                      refine eIF h (fun c35 h => ?_) (fun c35 h => ?_)
                      · refine eJN (fun j36 fj36 => j36 = some x2 → fj36 = some (Sum.map (fun (s2 : Int32 × Int32 × Int32 × ST) => (s2.1, s2.2.1, s2.2.2.1, mkM K R s2.2.2.2)) (fun (e2 : Int32 × ST) => (e2.1, mkM K R e2.2)) x2)) h ?_ ?_
                        · intro h
                          exact Jj33 _ h
                        · intro j36 fj36 Jj36 h
                          refine eIF h (fun c37 h => ?_) (fun c37 h => ?_)
                          · refine eIF h (fun c38 h => ?_) (fun c38 h => ?_)
                            · exact Jj34 h
                            · exact Jj36 h
                          · exact Jj36 h
                      · exact Jj34 h
              · intro j39 fj39 Jj39 h
                refine eIF h (fun c40 h => ?_) (fun c40 h => ?_)
                · refine eIF h (fun c41 h => ?_) (fun c41 h => ?_)
                  · exact Jj39 h
                  · refine eGR (kL_0 hl) (k8L 0 hl) (rL_0_6 hl) ?_
                    refine eGR (kL_0 hl) (k8L 0 hl) (rL_0_6 hl) ?_
                    refine eRI (kL_7 hl) h (fun v42 h => ?_)
                    refine eWI (kL_7 hl) (k8L 7 hl) h (fun S43 h => ?_)
                    exact Jj9 _ _ _ h
                · exact Jj39 h
            · intro j44 fj44 Jj44 h
              refine eIF h (fun c45 h => ?_) (fun c45 h => ?_)
              · exact Jj44 h
              · refine eIF h (fun c46 h => ?_) (fun c46 h => ?_)
                · exact Jj44 h
                · exact Jj17 h
  · intro e2 h
    refine eIF h (fun c47 h => ?_) (fun c47 h => ?_)
    · exact eLeaf (θ := (fun (o : (Int32 × ST)) => (o.1, mkM K R o.2))) h rfl
    · refine eGR (kL_0 hl) (k8L 0 hl) (rL_0_6 hl) ?_
      refine eRI (kL_7 hl) h (fun v48 h => ?_)
      refine eIF h (fun c49 h => ?_) (fun c49 h => ?_)
      · exact eLeaf (θ := (fun (o : (Int32 × ST)) => (o.1, mkM K R o.2))) h rfl
      · exact eLeaf (θ := (fun (o : (Int32 × ST)) => (o.1, mkM K R o.2))) h rfl
-- OnlyUpward$Laws.allow(ZIIII)Z
set_option maxRecDepth 100000 in
set_option maxHeartbeats 4000000 in
def E_X4_allow (n : Nat) (S : ST) (l : Nat) (a1 : Int32) (a2 : Int32) (a3 : Int32) (a4 : Int32) (a5 : Int32) : Option (Int32 × ST) :=
  jn (fun (u1 : Int32) => (rd (S.1 (l + 5)) 2 u1).bind fun v2 => if v2 = 0 then jn (some ((1 : Int32), S)) fun j4 => if a1 = 0 then if a3 < a2 then some ((0 : Int32), S) else j4 else j4 else (wr S (l + 6) 4 (0 : Int32) a2).bind fun S7 => (wr S7 (l + 6) 4 (1 : Int32) a3).bind fun S8 => (wr S8 (l + 6) 4 (2 : Int32) a4).bind fun S9 => (wr S9 (l + 6) 4 (3 : Int32) a5).bind fun S10 => (iter (fun (s11 : Int32 × ST) => (rd (s11.2.1 (l + 5)) 2 u1).bind fun v12 => if v12 ≤ s11.1 then some (.inr (.inl s11.2)) else (E_X4_holds n s11.2 l ((u1 * (4 : Int32)) + s11.1)).bind fun v14 => if v14.1 = 0 then some (.inl ((s11.1 + (1 : Int32)), v14.2)) else some (.inr (.inr ((1 : Int32), v14.2)))) n ((0 : Int32), S10)).bind fun (z11 : (ST) ⊕ (Int32 × ST)) => Sum.elim (fun (e11 : ST) => some ((0 : Int32), e11)) (fun (v : (Int32 × ST)) => some v) z11) fun j16 => if a1 = 0 then j16 (0 : Int32) else j16 (1 : Int32)
set_option maxRecDepth 100000 in
set_option maxHeartbeats 4000000 in
theorem E_X4_allow_ok {n : Nat} (hn : 30000 ≤ n) {K : AK} {R : Nat → Nat → Option Nat} {S : ST} {l : Nat} {a1 : Int32} {a2 : Int32} {a3 : Int32} {a4 : Int32} {a5 : Int32} {tz en : Nat} (hL : Lay K R tz en) (hl : LL K R l) {o : (Int32 × ST)} (h : E_X4_allow n S l a1 a2 a3 a4 a5 = some o) : F_X4_allow n (mkM K R S) l a1 a2 a3 a4 a5 = some (o.1, mkM K R o.2) := by
  unfold E_X4_allow at h
  unfold F_X4_allow
  refine eJN (fun j16 fj16 => ∀ (u1 : Int32), j16 u1 = some o → fj16 u1 = some (o.1, mkM K R o.2)) h ?_ ?_
  · intro u1 h
    refine eGR (kL_0 hl) (k8L 0 hl) (rL_0_4 hl) ?_
    refine eRI (kL_5 hl) h (fun v2 h => ?_)
    refine eIF h (fun c3 h => ?_) (fun c3 h => ?_)
    · refine eJN (fun j4 fj4 => j4 = some o → fj4 = some (o.1, mkM K R o.2)) h ?_ ?_
      · intro h
        exact eLeaf (θ := (fun (o : (Int32 × ST)) => (o.1, mkM K R o.2))) h rfl
      · intro j4 fj4 Jj4 h
        refine eIF h (fun c5 h => ?_) (fun c5 h => ?_)
        · refine eIF h (fun c6 h => ?_) (fun c6 h => ?_)
          · exact eLeaf (θ := (fun (o : (Int32 × ST)) => (o.1, mkM K R o.2))) h rfl
          · exact Jj4 h
        · exact Jj4 h
    · refine eGR (kL_0 hl) (k8L 0 hl) (rL_0_5 hl) ?_
      refine eWI (kL_6 hl) (k8L 6 hl) h (fun S7 h => ?_)
      refine eGR (kL_0 hl) (k8L 0 hl) (rL_0_5 hl) ?_
      refine eWI (kL_6 hl) (k8L 6 hl) h (fun S8 h => ?_)
      refine eGR (kL_0 hl) (k8L 0 hl) (rL_0_5 hl) ?_
      refine eWI (kL_6 hl) (k8L 6 hl) h (fun S9 h => ?_)
      refine eGR (kL_0 hl) (k8L 0 hl) (rL_0_5 hl) ?_
      refine eWI (kL_6 hl) (k8L 6 hl) h (fun S10 h => ?_)
      refine eLP (fun (s11 : Int32 × ST) => (s11.1, mkM K R s11.2)) (Sum.map (fun (e11 : ST) => mkM K R e11) (fun (v : (Int32 × ST)) => (v.1, mkM K R v.2))) h rfl ?_ ?_
      · intro s11 x11 h
        refine eGR (kL_0 hl) (k8L 0 hl) (rL_0_4 hl) ?_
        refine eRI (kL_5 hl) h (fun v12 h => ?_)
        refine eIF h (fun c13 h => ?_) (fun c13 h => ?_)
        · exact eLeaf (θ := (Sum.map (fun (s11 : Int32 × ST) => (s11.1, mkM K R s11.2)) (Sum.map (fun (e11 : ST) => mkM K R e11) (fun (v : (Int32 × ST)) => (v.1, mkM K R v.2))))) h rfl
        · refine eCwiV (kL_0 hl) (k8L 0 hl) (fun _ hv => E_X4_holds_ok hn hL hl hv) h (fun v14 h => ?_)
          refine eIF h (fun c15 h => ?_) (fun c15 h => ?_)
          · exact eLeaf (θ := (Sum.map (fun (s11 : Int32 × ST) => (s11.1, mkM K R s11.2)) (Sum.map (fun (e11 : ST) => mkM K R e11) (fun (v : (Int32 × ST)) => (v.1, mkM K R v.2))))) h rfl
          · exact eLeaf (θ := (Sum.map (fun (s11 : Int32 × ST) => (s11.1, mkM K R s11.2)) (Sum.map (fun (e11 : ST) => mkM K R e11) (fun (v : (Int32 × ST)) => (v.1, mkM K R v.2))))) h rfl
      · intro z11 h
        rcases z11 with e11 | v
        · have h := sum_inl h
          exact eLeaf (θ := (fun (o : (Int32 × ST)) => (o.1, mkM K R o.2))) h rfl
        · have h := sum_inr h
          exact eLeaf (θ := (fun (o : (Int32 × ST)) => (o.1, mkM K R o.2))) h rfl
  · intro j16 fj16 Jj16 h
    refine eIF h (fun c17 h => ?_) (fun c17 h => ?_)
    · exact Jj16 _ h
    · exact Jj16 _ h
-- OnlyUpward$World.allows(IIIZI)Z
set_option maxRecDepth 100000 in
set_option maxHeartbeats 4000000 in
def E_X10_allows (n : Nat) (S : ST) (w : Nat) (a1 : Int32) (a2 : Int32) (a3 : Int32) (a4 : Int32) (a5 : Int32) : Option (Int32 × ST) :=
  (E_X10_placeOf n S w a1 a3).bind fun v1 => (E_X10_standers n S w v1 a3).bind fun v2 => (E_X11_hasBit n S (v2 &&& a5) a1).bind fun v3 => if v3 = 0 then some ((0 : Int32), S) else (E_X11_hasBit n S (v2 &&& a5) a2).bind fun v5 => if v5 = 0 then some ((0 : Int32), S) else (E_J6_bitCount_0f7a4 n S (v2 &&& a5)).bind fun v7 => (E_X10_ageAt n S w a1 a3).bind fun v8 => (E_X10_ageAt n S w a2 a3).bind fun v9 => (E_X4_allow n S (w + 13) a4 v8 v9 a3 v7).bind fun v10 => gd (narrow .boolean (.int v10.1) = .int v10.1) (some (v10.1, v10.2))
set_option maxRecDepth 100000 in
set_option maxHeartbeats 4000000 in
theorem E_X10_allows_ok {n : Nat} (hn : 30000 ≤ n) {K : AK} {R : Nat → Nat → Option Nat} {S : ST} {w : Nat} {a1 : Int32} {a2 : Int32} {a3 : Int32} {a4 : Int32} {a5 : Int32} {tz en : Nat} (hL : Lay K R tz en) (hw : LW K R w) {o : (Int32 × ST)} (h : E_X10_allows n S w a1 a2 a3 a4 a5 = some o) : F_X10_allows n (mkM K R S) w a1 a2 a3 a4 a5 = some (o.1, mkM K R o.2) := by
  unfold E_X10_allows at h
  unfold F_X10_allows
  refine eCV (kW_0 hw) (k8W 0 hw) (fun _ hv => E_X10_placeOf_ok hn hL hw hv) h (fun v1 h => ?_)
  refine eCV (kW_0 hw) (k8W 0 hw) (fun _ hv => E_X10_standers_ok hn hL hw hv) h (fun v2 h => ?_)
  refine eCS (fun _ hv => E_X11_hasBit_ok hn hL hv) h (fun v3 h => ?_)
  refine eIF h (fun c4 h => ?_) (fun c4 h => ?_)
  · exact eLeaf (θ := (fun (o : (Int32 × ST)) => (o.1, mkM K R o.2))) h rfl
  · refine eCS (fun _ hv => E_X11_hasBit_ok hn hL hv) h (fun v5 h => ?_)
    refine eIF h (fun c6 h => ?_) (fun c6 h => ?_)
    · exact eLeaf (θ := (fun (o : (Int32 × ST)) => (o.1, mkM K R o.2))) h rfl
    · refine eCS (fun _ hv => E_J6_bitCount_0f7a4_ok hn hL hv) h (fun v7 h => ?_)
      refine eGR (kW_0 hw) (k8W 0 hw) (rW_0_12 hw) ?_
      refine eCV (kW_0 hw) (k8W 0 hw) (fun _ hv => E_X10_ageAt_ok hn hL hw hv) h (fun v8 h => ?_)
      refine eCV (kW_0 hw) (k8W 0 hw) (fun _ hv => E_X10_ageAt_ok hn hL hw hv) h (fun v9 h => ?_)
      refine eCwiV (kW_13 hw) (k8W 13 hw) (fun _ hv => E_X4_allow_ok hn hL (LW_LL hw) hv) h (fun v10 h => ?_)
      refine eGD h (fun c11 h => ?_)
      exact eLeaf (θ := (fun (o : (Int32 × ST)) => (o.1, mkM K R o.2))) h rfl
-- OnlyUpward$World.othersToSayTo(II)I
set_option maxRecDepth 100000 in
set_option maxHeartbeats 4000000 in
def E_X10_othersToSayTo (n : Nat) (S : ST) (w : Nat) (a1 : Int32) (a2 : Int32) : Option (Int32 × ST) :=
  (iter (fun (s1 : Int32 × Int32 × ST) => (rd (s1.2.2.1 (w + 1)) 11 (1 : Int32)).bind fun v2 => if v2 ≤ s1.2.1 then some (.inr (s1.1, s1.2.2)) else jn (fun (u4 : Int32) (S5 : ST) => some (.inl (u4, (s1.2.1 + (1 : Int32)), S5))) fun j6 => if s1.2.1 = a1 then j6 s1.1 s1.2.2 else (E_X10_everybody n s1.2.2 w).bind fun v8 => (E_X10_allows n s1.2.2 w a1 s1.2.1 a2 (0 : Int32) v8).bind fun v9 => if v9.1 = 0 then j6 s1.1 v9.2 else j6 (s1.1 ||| ((1 : Int32) <<< (s1.2.1 &&& 31))) v9.2) n ((0 : Int32), (0 : Int32), S)).bind fun (e1 : Int32 × ST) => some (e1.1, e1.2)
set_option maxRecDepth 100000 in
set_option maxHeartbeats 4000000 in
theorem E_X10_othersToSayTo_ok {n : Nat} (hn : 30000 ≤ n) {K : AK} {R : Nat → Nat → Option Nat} {S : ST} {w : Nat} {a1 : Int32} {a2 : Int32} {tz en : Nat} (hL : Lay K R tz en) (hw : LW K R w) {o : (Int32 × ST)} (h : E_X10_othersToSayTo n S w a1 a2 = some o) : F_X10_othersToSayTo n (mkM K R S) w a1 a2 = some (o.1, mkM K R o.2) := by
  unfold E_X10_othersToSayTo at h
  unfold F_X10_othersToSayTo
  refine eLP (fun (s1 : Int32 × Int32 × ST) => (s1.1, s1.2.1, mkM K R s1.2.2)) (fun (e1 : Int32 × ST) => (e1.1, mkM K R e1.2)) h rfl ?_ ?_
  · intro s1 x1 h
    refine eGR (kW_0 hw) (k8W 0 hw) (rW_0_0 hw) ?_
    refine eRI (kW_1 hw) h (fun v2 h => ?_)
    refine eIF h (fun c3 h => ?_) (fun c3 h => ?_)
    · exact eLeaf (θ := (Sum.map (fun (s1 : Int32 × Int32 × ST) => (s1.1, s1.2.1, mkM K R s1.2.2)) (fun (e1 : Int32 × ST) => (e1.1, mkM K R e1.2)))) h rfl
    · refine eJN (fun j6 fj6 => ∀ (u4 : Int32) (S5 : ST), j6 u4 S5 = some x1 → fj6 u4 (mkM K R S5) = some (Sum.map (fun (s1 : Int32 × Int32 × ST) => (s1.1, s1.2.1, mkM K R s1.2.2)) (fun (e1 : Int32 × ST) => (e1.1, mkM K R e1.2)) x1)) h ?_ ?_
      · intro u4 S5 h
        exact eLeaf (θ := (Sum.map (fun (s1 : Int32 × Int32 × ST) => (s1.1, s1.2.1, mkM K R s1.2.2)) (fun (e1 : Int32 × ST) => (e1.1, mkM K R e1.2)))) h rfl
      · intro j6 fj6 Jj6 h
        refine eIF h (fun c7 h => ?_) (fun c7 h => ?_)
        · exact Jj6 _ _ h
        · refine eCV (kW_0 hw) (k8W 0 hw) (fun _ hv => E_X10_everybody_ok hn hL hw hv) h (fun v8 h => ?_)
          refine eCwiV (kW_0 hw) (k8W 0 hw) (fun _ hv => E_X10_allows_ok hn hL hw hv) h (fun v9 h => ?_)
          refine eIF h (fun c10 h => ?_) (fun c10 h => ?_)
          · exact Jj6 _ _ h
          · exact Jj6 _ _ h
  · intro e1 h
    exact eLeaf (θ := (fun (o : (Int32 × ST)) => (o.1, mkM K R o.2))) h rfl
