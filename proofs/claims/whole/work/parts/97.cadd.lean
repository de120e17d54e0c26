/-! ===== the class: the world is told ===== -/
section CAD
variable {n w m : Nat} {S : ST}
/-- the count of a kind, and one more -/
theorem c_addPlace (hw : w = 22 ∨ w = 47) (hc : S.1 (w + 1) 0 = nI m) (hm : m < 6) : Ok (E_X10_addPlace n S w) (fun S' => S'.2 = S.2 ∧ (∀ a j, (a ≠ w + 1 ∨ j ≠ 0) → S'.1 a j = S.1 a j) ∧ S'.1 (w + 1) 0 = nI (m + 1)) := by
  unfold E_X10_addPlace
  apply Ok.step (x := nI m) (by rw [show (0 : Int32) = nI 0 from rfl, rd_nI (by decide) (by decide), hc])
  refine Ok.ifF (nI_ge (b := 6) hm (by decide)) ?_
  apply Ok.step (x := nI m) (by rw [show (0 : Int32) = nI 0 from rfl, rd_nI (by decide) (by decide), hc])
  apply Ok.step (x := upI S (w + 1) 0 (nI m + 1)) (by rw [show (0 : Int32) = nI 0 from rfl, wr_nI (by decide) (by decide)])
  refine Ok.ret ⟨rfl, fun a j h => ?_, ?_⟩
  · rw [upI_at, if_neg (by omega)]
  · rw [upI_at, if_pos ⟨rfl, rfl⟩, nI_1]
theorem c_addThing {v : Int32} (hw : w = 22 ∨ w = 47) (hc : S.1 (w + 1) 2 = nI m) (hm : m < 6) : Ok (E_X10_addThing n S w v) (fun S' => S'.2 = S.2 ∧ (∀ a j, (a ≠ w + 1 ∨ j ≠ 2) → (a ≠ w + 4 ∨ j ≠ m) → S'.1 a j = S.1 a j) ∧ S'.1 (w + 1) 2 = nI (m + 1) ∧ S'.1 (w + 4) m = v) := by
  unfold E_X10_addThing
  apply Ok.step (x := nI m) (by rw [show (2 : Int32) = nI 2 from rfl, rd_nI (by decide) (by decide), hc])
  refine Ok.ifF (nI_ge (b := 6) hm (by decide)) ?_
  apply Ok.step (wr_nI hm (by decide))
  apply Ok.step (x := nI m) (by rw [show (2 : Int32) = nI 2 from rfl, rd_nI (by decide) (by decide), upI_at, if_neg (by omega), hc])
  apply Ok.step (x := upI (upI S (w + 4) m v) (w + 1) 2 (nI m + 1)) (by rw [show (2 : Int32) = nI 2 from rfl, wr_nI (by decide) (by decide)])
  refine Ok.ret ⟨rfl, fun a j h h2 => ?_, ?_, ?_⟩
  · rw [upI_at, if_neg (by omega), upI_at, if_neg (by omega)]
  · rw [upI_at, if_pos ⟨rfl, rfl⟩, nI_1]
  · rw [upI_at, if_neg (by omega), upI_at, if_pos ⟨rfl, rfl⟩]
theorem c_addPerson {v u : Int32} (hw : w = 22 ∨ w = 47) (hc : S.1 (w + 1) 1 = nI m) (hm : m < 10) : Ok (E_X10_addPerson n S w v u) (fun S' => S'.2 = S.2 ∧ (∀ a j, (a ≠ w + 1 ∨ j ≠ 1) → ((a ≠ w + 2 ∧ a ≠ w + 3) ∨ j ≠ m) → S'.1 a j = S.1 a j) ∧ S'.1 (w + 1) 1 = nI (m + 1) ∧ S'.1 (w + 2) m = v ∧ S'.1 (w + 3) m = u) := by
  unfold E_X10_addPerson
  apply Ok.step (x := nI m) (by rw [show (1 : Int32) = nI 1 from rfl, rd_nI (by decide) (by decide), hc])
  refine Ok.ifF (nI_ge (b := 10) hm (by decide)) ?_
  apply Ok.step (wr_nI hm (by decide))
  apply Ok.step (wr_nI hm (by decide))
  apply Ok.step (x := nI m) (by rw [show (1 : Int32) = nI 1 from rfl, rd_nI (by decide) (by decide), upI_at, if_neg (by omega), upI_at, if_neg (by omega), hc])
  apply Ok.step (x := upI (upI (upI S (w + 2) m v) (w + 3) m u) (w + 1) 1 (nI m + 1)) (by rw [show (1 : Int32) = nI 1 from rfl, wr_nI (by decide) (by decide)])
  refine Ok.ret ⟨rfl, fun a j h h2 => ?_, ?_, ?_, ?_⟩
  · rw [upI_at, if_neg (by omega), upI_at, if_neg (by omega), upI_at, if_neg (by omega)]
  · rw [upI_at, if_pos ⟨rfl, rfl⟩, nI_1]
  · rw [upI_at, if_neg (by omega), upI_at, if_neg (by omega), upI_at, if_pos ⟨rfl, rfl⟩]
  · rw [upI_at, if_neg (by omega), upI_at, if_pos ⟨rfl, rfl⟩]
theorem c_addMust {v u x : Int32} (hw : w = 22 ∨ w = 47) (hc : S.1 (w + 1) 6 = nI m) (hm : m < 12) : Ok (E_X10_addMust n S w v u x) (fun S' => S'.2 = S.2 ∧ (∀ a j, (a ≠ w + 1 ∨ j ≠ 6) → ((a ≠ w + 7 ∧ a ≠ w + 8 ∧ a ≠ w + 9) ∨ j ≠ m) → S'.1 a j = S.1 a j) ∧ S'.1 (w + 1) 6 = nI (m + 1) ∧ S'.1 (w + 7) m = v ∧ S'.1 (w + 8) m = u ∧ S'.1 (w + 9) m = x) := by
  unfold E_X10_addMust
  apply Ok.step (x := nI m) (by rw [show (6 : Int32) = nI 6 from rfl, rd_nI (by decide) (by decide), hc])
  refine Ok.ifF (nI_ge (b := 12) hm (by decide)) ?_
  apply Ok.step (wr_nI hm (by decide))
  apply Ok.step (wr_nI hm (by decide))
  apply Ok.step (wr_nI hm (by decide))
  apply Ok.step (x := nI m) (by rw [show (6 : Int32) = nI 6 from rfl, rd_nI (by decide) (by decide), upI_at, if_neg (by omega), upI_at, if_neg (by omega), upI_at, if_neg (by omega), hc])
  apply Ok.step (x := upI (upI (upI (upI S (w + 7) m v) (w + 8) m u) (w + 9) m x) (w + 1) 6 (nI m + 1)) (by rw [show (6 : Int32) = nI 6 from rfl, wr_nI (by decide) (by decide)])
  refine Ok.ret ⟨rfl, fun a j h h2 => ?_, ?_, ?_, ?_, ?_⟩
  · rw [upI_at, if_neg (by omega), upI_at, if_neg (by omega), upI_at, if_neg (by omega), upI_at, if_neg (by omega)]
  · rw [upI_at, if_pos ⟨rfl, rfl⟩, nI_1]
  · rw [upI_at, if_neg (by omega), upI_at, if_neg (by omega), upI_at, if_neg (by omega), upI_at, if_pos ⟨rfl, rfl⟩]
  · rw [upI_at, if_neg (by omega), upI_at, if_neg (by omega), upI_at, if_pos ⟨rfl, rfl⟩]
  · rw [upI_at, if_neg (by omega), upI_at, if_pos ⟨rfl, rfl⟩]
theorem c_addAct {v u : Int32} (hw : w = 22 ∨ w = 47) (hc : S.1 (w + 1) 7 = nI m) (hm : m < 6) : Ok (E_X10_addAct n S w v u) (fun S' => S'.2 = S.2 ∧ (∀ a j, (a ≠ w + 1 ∨ j ≠ 7) → ((a ≠ w + 10 ∧ a ≠ w + 11) ∨ j ≠ m) → S'.1 a j = S.1 a j) ∧ S'.1 (w + 1) 7 = nI (m + 1) ∧ S'.1 (w + 10) m = v ∧ S'.1 (w + 11) m = u) := by
  unfold E_X10_addAct
  apply Ok.step (x := nI m) (by rw [show (7 : Int32) = nI 7 from rfl, rd_nI (by decide) (by decide), hc])
  refine Ok.ifF (nI_ge (b := 6) hm (by decide)) ?_
  apply Ok.step (wr_nI hm (by decide))
  apply Ok.step (wr_nI hm (by decide))
  apply Ok.step (x := nI m) (by rw [show (7 : Int32) = nI 7 from rfl, rd_nI (by decide) (by decide), upI_at, if_neg (by omega), upI_at, if_neg (by omega), hc])
  apply Ok.step (x := upI (upI (upI S (w + 10) m v) (w + 11) m u) (w + 1) 7 (nI m + 1)) (by rw [show (7 : Int32) = nI 7 from rfl, wr_nI (by decide) (by decide)])
  refine Ok.ret ⟨rfl, fun a j h h2 => ?_, ?_, ?_, ?_⟩
  · rw [upI_at, if_neg (by omega), upI_at, if_neg (by omega), upI_at, if_neg (by omega)]
  · rw [upI_at, if_pos ⟨rfl, rfl⟩, nI_1]
  · rw [upI_at, if_neg (by omega), upI_at, if_neg (by omega), upI_at, if_pos ⟨rfl, rfl⟩]
  · rw [upI_at, if_neg (by omega), upI_at, if_pos ⟨rfl, rfl⟩]
theorem c_addTask {v : Int32} (hw : w = 22 ∨ w = 47) (hc : S.1 (w + 1) 8 = nI m) (hm : m < 4) : Ok (E_X10_addTask n S w v) (fun S' => S'.2 = S.2 ∧ (∀ a j, (a ≠ w + 1 ∨ j ≠ 8) → (a ≠ w + 12 ∨ j ≠ m) → S'.1 a j = S.1 a j) ∧ S'.1 (w + 1) 8 = nI (m + 1) ∧ S'.1 (w + 12) m = v) := by
  unfold E_X10_addTask
  apply Ok.step (x := nI m) (by rw [show (8 : Int32) = nI 8 from rfl, rd_nI (by decide) (by decide), hc])
  refine Ok.ifF (nI_ge (b := 4) hm (by decide)) ?_
  apply Ok.step (wr_nI hm (by decide))
  apply Ok.step (x := nI m) (by rw [show (8 : Int32) = nI 8 from rfl, rd_nI (by decide) (by decide), upI_at, if_neg (by omega), hc])
  apply Ok.step (x := upI (upI S (w + 12) m v) (w + 1) 8 (nI m + 1)) (by rw [show (8 : Int32) = nI 8 from rfl, wr_nI (by decide) (by decide)])
  refine Ok.ret ⟨rfl, fun a j h h2 => ?_, ?_, ?_⟩
  · rw [upI_at, if_neg (by omega), upI_at, if_neg (by omega)]
  · rw [upI_at, if_pos ⟨rfl, rfl⟩, nI_1]
  · rw [upI_at, if_neg (by omega), upI_at, if_pos ⟨rfl, rfl⟩]
/-- a thin wall: both have the other's bit -/
theorem c_addThin {a b : Nat} (hw : w = 22 ∨ w = 47) (hc : S.1 (w + 1) 3 = nI m) (ha : a < 6) (hb : b < 6) : Ok (E_X10_addThin n S w (nI a) (nI b)) (fun S' => S'.2 = S.2 ∧ (∀ d j, (d ≠ w + 1 ∨ j ≠ 3) → d ≠ w + 5 → S'.1 d j = S.1 d j) ∧ S'.1 (w + 1) 3 = nI (m + 1) ∧ ∀ j, S'.1 (w + 5) j = (if j = b then (if j = a then S.1 (w + 5) j ||| ((1 : Int32) <<< (nI b &&& 31)) else S.1 (w + 5) j) ||| ((1 : Int32) <<< (nI a &&& 31)) else (if j = a then S.1 (w + 5) j ||| ((1 : Int32) <<< (nI b &&& 31)) else S.1 (w + 5) j))) := by
  unfold E_X10_addThin
  apply Ok.step (x := nI m) (by rw [show (3 : Int32) = nI 3 from rfl, rd_nI (by decide) (by decide), hc])
  apply Ok.step (x := upI S (w + 1) 3 (nI m + 1)) (by rw [show (3 : Int32) = nI 3 from rfl, wr_nI (by decide) (by decide)])
  apply Ok.step (x := S.1 (w + 5) a) (by rw [rd_nI ha (by decide), upI_at, if_neg (by omega)])
  apply Ok.step (wr_nI ha (by decide))
  apply Ok.step (rd_nI hb (by decide))
  apply Ok.step (wr_nI hb (by decide))
  refine Ok.ret ⟨rfl, fun d j h h2 => ?_, ?_, fun j => ?_⟩
  · rw [upI_at, if_neg (by omega), upI_at, if_neg (by omega), upI_at, if_neg (by omega)]
  · rw [upI_at, if_neg (by omega), upI_at, if_neg (by omega), upI_at, if_pos ⟨rfl, rfl⟩, nI_1]
  · have r1 : ∀ i, (upI (upI S (w + 1) 3 (nI m + 1)) (w + 5) a (S.1 (w + 5) a ||| ((1 : Int32) <<< (nI b &&& 31)))).1 (w + 5) i = if i = a then S.1 (w + 5) i ||| ((1 : Int32) <<< (nI b &&& 31)) else S.1 (w + 5) i := fun i => by
      rw [upI_at]
      by_cases e : i = a
      · rw [if_pos ⟨rfl, e⟩, if_pos e, e]
      · rw [if_neg (fun z => e z.2), if_neg e, upI_at, if_neg (by omega)]
    rw [upI_at]
    by_cases e : j = b
    · rw [if_pos ⟨rfl, e⟩, if_pos e, r1, e]
    · rw [if_neg (fun z => e z.2), if_neg e, r1]
theorem c_addKnown {a b : Nat} (hw : w = 22 ∨ w = 47) (hc : S.1 (w + 1) 5 = nI m) (ha : a < 10) : Ok (E_X10_addKnown n S w (nI a) (nI b)) (fun S' => S'.2 = S.2 ∧ (∀ d j, (d ≠ w + 1 ∨ j ≠ 5) → (d ≠ w + 6 ∨ j ≠ a) → S'.1 d j = S.1 d j) ∧ S'.1 (w + 1) 5 = nI (m + 1) ∧ S'.1 (w + 6) a = S.1 (w + 6) a ||| ((1 : Int32) <<< (nI b &&& 31))) := by
  unfold E_X10_addKnown
  apply Ok.step (x := nI m) (by rw [show (5 : Int32) = nI 5 from rfl, rd_nI (by decide) (by decide), hc])
  apply Ok.step (x := upI S (w + 1) 5 (nI m + 1)) (by rw [show (5 : Int32) = nI 5 from rfl, wr_nI (by decide) (by decide)])
  apply Ok.step (x := S.1 (w + 6) a) (by rw [rd_nI ha (by decide), upI_at, if_neg (by omega)])
  apply Ok.step (wr_nI ha (by decide))
  refine Ok.ret ⟨rfl, fun d j h h2 => ?_, ?_, ?_⟩
  · rw [upI_at, if_neg (by omega), upI_at, if_neg (by omega)]
  · rw [upI_at, if_neg (by omega), upI_at, if_pos ⟨rfl, rfl⟩, nI_1]
  · rw [upI_at, if_pos ⟨rfl, rfl⟩]
end CAD
