section MW
/-! the state as rows of numbers; the model's world -/
abbrev St : Type := Nat → Nat → Int32
def up (c : St) (k i : Nat) (v : Int32) : St := fun k' => if k' = k then upd (c k') i v else c k'
theorem up_eq {c : St} {k i : Nat} {v : Int32} : up c k i v k = upd (c k) i v := by simp [up]
theorem up_at {c : St} {k i : Nat} {v : Int32} : up c k i v k i = v := by simp [up, upd]
theorem up_row {c : St} {k k' i : Nat} {v : Int32} (h : k' ≠ k) : up c k i v k' = c k' := by simp [up, h]
theorem up_off {c : St} {k i j : Nat} {v : Int32} (h : j ≠ i) : up c k i v k j = c k j := by simp [up, upd, h]
theorem up_app {c : St} {k i k' j : Nat} {v : Int32} : up c k i v k' j = if k' = k ∧ j = i then v else c k' j := by
  by_cases h : k' = k
  · subst h; by_cases h2 : j = i <;> simp [up, upd, h2]
  · simp [up, h]
theorem lv_cast {ls : Array Slot} {nL : Nat} {l1 l2 : List (Nat × Value)} (h : lv_has ls nL l1) (e : l1 = l2) : lv_has ls nL l2 := e ▸ h
def mobj (ad : Nat → Nat) (r : St) : List Value := [.int (r 0 0), .int (r 0 1), .int (r 0 2), .int (r 0 3), .int (r 0 4), .int (r 0 5), .ref (ad 1), .ref (ad 2), .ref (ad 3), .ref (ad 4), .ref (ad 5), .ref (ad 6), .ref (ad 7), .ref (ad 8), .ref (ad 9), .ref (ad 10), .ref (ad 11), .ref (ad 12), .ref (ad 13), .ref (ad 14), .ref (ad 15), .ref (ad 16), .ref (ad 17), .ref (ad 18), .ref (ad 19), .ref (ad 20), .ref (ad 21), .ref (ad 22), .ref (ad 23), .ref (ad 24), .ref (ad 25)]
def mw (cA : Nat → ClassId) (ad : Nat → Nat) (r : St) : va_W := [(ad 0, .inr (6, mobj ad r)), (ad 1, .inl (cA 0, 24, .inl (r 1))), (ad 2, .inl (cA 0, 24, .inl (r 2))), (ad 3, .inl (cA 0, 24, .inl (r 3))), (ad 4, .inl (cA 0, 24, .inl (r 4))), (ad 5, .inl (cA 0, 24, .inl (r 5))), (ad 6, .inl (cA 0, 24, .inl (r 6))), (ad 7, .inl (cA 0, 24, .inl (r 7))), (ad 8, .inl (cA 0, 24, .inl (r 8))), (ad 9, .inl (cA 0, 24, .inl (r 9))), (ad 10, .inl (cA 0, 24, .inl (r 10))), (ad 11, .inl (cA 0, 24, .inl (r 11))), (ad 12, .inl (cA 0, 24, .inl (r 12))), (ad 13, .inl (cA 0, 24, .inl (r 13))), (ad 14, .inl (cA 1, 24, .inl (r 14))), (ad 15, .inl (cA 1, 24, .inl (r 15))), (ad 16, .inl (cA 1, 24, .inl (r 16))), (ad 17, .inl (cA 1, 24, .inl (r 17))), (ad 18, .inl (cA 0, 24, .inl (r 18))), (ad 19, .inl (cA 0, 96, .inl (r 19))), (ad 20, .inl (cA 0, 4, .inl (r 20))), (ad 21, .inl (cA 0, 4, .inl (r 21))), (ad 22, .inl (cA 0, 4, .inl (r 22))), (ad 23, .inl (cA 0, 4, .inl (r 23))), (ad 24, .inl (cA 0, 4, .inl (r 24))), (ad 25, .inl (cA 0, 4, .inl (r 25)))]
variable {cA : Nat → ClassId} {ad : Nat → Nat} {r : St}
theorem ml_0 : (mw cA ad r)[0]? = some (ad 0, .inr (6, mobj ad r)) := rfl
theorem mv_0 {x : Int32} (h : r 0 0 = x) : (mobj ad r)[0]? = some (.int x) := h ▸ rfl
theorem mv_1 {x : Int32} (h : r 0 1 = x) : (mobj ad r)[1]? = some (.int x) := h ▸ rfl
theorem mv_2 {x : Int32} (h : r 0 2 = x) : (mobj ad r)[2]? = some (.int x) := h ▸ rfl
theorem mv_3 {x : Int32} (h : r 0 3 = x) : (mobj ad r)[3]? = some (.int x) := h ▸ rfl
theorem mv_4 {x : Int32} (h : r 0 4 = x) : (mobj ad r)[4]? = some (.int x) := h ▸ rfl
theorem mv_5 {x : Int32} (h : r 0 5 = x) : (mobj ad r)[5]? = some (.int x) := h ▸ rfl
theorem ml_1 : (mw cA ad r)[1]? = some (ad 1, .inl (cA 0, 24, .inl (r 1))) := rfl
theorem mr_1 : (mobj ad r)[6]? = some (.ref (ad 1)) := rfl
theorem ml_2 : (mw cA ad r)[2]? = some (ad 2, .inl (cA 0, 24, .inl (r 2))) := rfl
theorem mr_2 : (mobj ad r)[7]? = some (.ref (ad 2)) := rfl
theorem ml_3 : (mw cA ad r)[3]? = some (ad 3, .inl (cA 0, 24, .inl (r 3))) := rfl
theorem mr_3 : (mobj ad r)[8]? = some (.ref (ad 3)) := rfl
theorem ml_4 : (mw cA ad r)[4]? = some (ad 4, .inl (cA 0, 24, .inl (r 4))) := rfl
theorem mr_4 : (mobj ad r)[9]? = some (.ref (ad 4)) := rfl
theorem ml_5 : (mw cA ad r)[5]? = some (ad 5, .inl (cA 0, 24, .inl (r 5))) := rfl
theorem mr_5 : (mobj ad r)[10]? = some (.ref (ad 5)) := rfl
theorem ml_6 : (mw cA ad r)[6]? = some (ad 6, .inl (cA 0, 24, .inl (r 6))) := rfl
theorem mr_6 : (mobj ad r)[11]? = some (.ref (ad 6)) := rfl
theorem ml_7 : (mw cA ad r)[7]? = some (ad 7, .inl (cA 0, 24, .inl (r 7))) := rfl
theorem mr_7 : (mobj ad r)[12]? = some (.ref (ad 7)) := rfl
theorem ml_8 : (mw cA ad r)[8]? = some (ad 8, .inl (cA 0, 24, .inl (r 8))) := rfl
theorem mr_8 : (mobj ad r)[13]? = some (.ref (ad 8)) := rfl
theorem ml_9 : (mw cA ad r)[9]? = some (ad 9, .inl (cA 0, 24, .inl (r 9))) := rfl
theorem mr_9 : (mobj ad r)[14]? = some (.ref (ad 9)) := rfl
theorem ml_10 : (mw cA ad r)[10]? = some (ad 10, .inl (cA 0, 24, .inl (r 10))) := rfl
theorem mr_10 : (mobj ad r)[15]? = some (.ref (ad 10)) := rfl
theorem ml_11 : (mw cA ad r)[11]? = some (ad 11, .inl (cA 0, 24, .inl (r 11))) := rfl
theorem mr_11 : (mobj ad r)[16]? = some (.ref (ad 11)) := rfl
theorem ml_12 : (mw cA ad r)[12]? = some (ad 12, .inl (cA 0, 24, .inl (r 12))) := rfl
theorem mr_12 : (mobj ad r)[17]? = some (.ref (ad 12)) := rfl
theorem ml_13 : (mw cA ad r)[13]? = some (ad 13, .inl (cA 0, 24, .inl (r 13))) := rfl
theorem mr_13 : (mobj ad r)[18]? = some (.ref (ad 13)) := rfl
theorem ml_14 : (mw cA ad r)[14]? = some (ad 14, .inl (cA 1, 24, .inl (r 14))) := rfl
theorem mr_14 : (mobj ad r)[19]? = some (.ref (ad 14)) := rfl
theorem ml_15 : (mw cA ad r)[15]? = some (ad 15, .inl (cA 1, 24, .inl (r 15))) := rfl
theorem mr_15 : (mobj ad r)[20]? = some (.ref (ad 15)) := rfl
theorem ml_16 : (mw cA ad r)[16]? = some (ad 16, .inl (cA 1, 24, .inl (r 16))) := rfl
theorem mr_16 : (mobj ad r)[21]? = some (.ref (ad 16)) := rfl
theorem ml_17 : (mw cA ad r)[17]? = some (ad 17, .inl (cA 1, 24, .inl (r 17))) := rfl
theorem mr_17 : (mobj ad r)[22]? = some (.ref (ad 17)) := rfl
theorem ml_18 : (mw cA ad r)[18]? = some (ad 18, .inl (cA 0, 24, .inl (r 18))) := rfl
theorem mr_18 : (mobj ad r)[23]? = some (.ref (ad 18)) := rfl
theorem ml_19 : (mw cA ad r)[19]? = some (ad 19, .inl (cA 0, 96, .inl (r 19))) := rfl
theorem mr_19 : (mobj ad r)[24]? = some (.ref (ad 19)) := rfl
theorem ml_20 : (mw cA ad r)[20]? = some (ad 20, .inl (cA 0, 4, .inl (r 20))) := rfl
theorem mr_20 : (mobj ad r)[25]? = some (.ref (ad 20)) := rfl
theorem ml_21 : (mw cA ad r)[21]? = some (ad 21, .inl (cA 0, 4, .inl (r 21))) := rfl
theorem mr_21 : (mobj ad r)[26]? = some (.ref (ad 21)) := rfl
theorem ml_22 : (mw cA ad r)[22]? = some (ad 22, .inl (cA 0, 4, .inl (r 22))) := rfl
theorem mr_22 : (mobj ad r)[27]? = some (.ref (ad 22)) := rfl
theorem ml_23 : (mw cA ad r)[23]? = some (ad 23, .inl (cA 0, 4, .inl (r 23))) := rfl
theorem mr_23 : (mobj ad r)[28]? = some (.ref (ad 23)) := rfl
theorem ml_24 : (mw cA ad r)[24]? = some (ad 24, .inl (cA 0, 4, .inl (r 24))) := rfl
theorem mr_24 : (mobj ad r)[29]? = some (.ref (ad 24)) := rfl
theorem ml_25 : (mw cA ad r)[25]? = some (ad 25, .inl (cA 0, 4, .inl (r 25))) := rfl
theorem mr_25 : (mobj ad r)[30]? = some (.ref (ad 25)) := rfl
theorem ms_0_0 {v : Int32} : (mw cA ad r).set 0 (ad 0, .inr (6, (mobj ad r).set 0 (.int v))) = mw cA ad (up r 0 0 v) := rfl
theorem ms_0_1 {v : Int32} : (mw cA ad r).set 0 (ad 0, .inr (6, (mobj ad r).set 1 (.int v))) = mw cA ad (up r 0 1 v) := rfl
theorem ms_0_2 {v : Int32} : (mw cA ad r).set 0 (ad 0, .inr (6, (mobj ad r).set 2 (.int v))) = mw cA ad (up r 0 2 v) := rfl
theorem ms_0_3 {v : Int32} : (mw cA ad r).set 0 (ad 0, .inr (6, (mobj ad r).set 3 (.int v))) = mw cA ad (up r 0 3 v) := rfl
theorem ms_0_4 {v : Int32} : (mw cA ad r).set 0 (ad 0, .inr (6, (mobj ad r).set 4 (.int v))) = mw cA ad (up r 0 4 v) := rfl
theorem ms_0_5 {v : Int32} : (mw cA ad r).set 0 (ad 0, .inr (6, (mobj ad r).set 5 (.int v))) = mw cA ad (up r 0 5 v) := rfl
theorem ms_1 {j : Nat} {x : Int32} : (mw cA ad r).set 1 (ad 1, .inl (cA 0, 24, .inl (upd (r 1) j x))) = mw cA ad (up r 1 j x) := rfl
theorem ms_2 {j : Nat} {x : Int32} : (mw cA ad r).set 2 (ad 2, .inl (cA 0, 24, .inl (upd (r 2) j x))) = mw cA ad (up r 2 j x) := rfl
theorem ms_3 {j : Nat} {x : Int32} : (mw cA ad r).set 3 (ad 3, .inl (cA 0, 24, .inl (upd (r 3) j x))) = mw cA ad (up r 3 j x) := rfl
theorem ms_4 {j : Nat} {x : Int32} : (mw cA ad r).set 4 (ad 4, .inl (cA 0, 24, .inl (upd (r 4) j x))) = mw cA ad (up r 4 j x) := rfl
theorem ms_5 {j : Nat} {x : Int32} : (mw cA ad r).set 5 (ad 5, .inl (cA 0, 24, .inl (upd (r 5) j x))) = mw cA ad (up r 5 j x) := rfl
theorem ms_6 {j : Nat} {x : Int32} : (mw cA ad r).set 6 (ad 6, .inl (cA 0, 24, .inl (upd (r 6) j x))) = mw cA ad (up r 6 j x) := rfl
theorem ms_7 {j : Nat} {x : Int32} : (mw cA ad r).set 7 (ad 7, .inl (cA 0, 24, .inl (upd (r 7) j x))) = mw cA ad (up r 7 j x) := rfl
theorem ms_8 {j : Nat} {x : Int32} : (mw cA ad r).set 8 (ad 8, .inl (cA 0, 24, .inl (upd (r 8) j x))) = mw cA ad (up r 8 j x) := rfl
theorem ms_9 {j : Nat} {x : Int32} : (mw cA ad r).set 9 (ad 9, .inl (cA 0, 24, .inl (upd (r 9) j x))) = mw cA ad (up r 9 j x) := rfl
theorem ms_10 {j : Nat} {x : Int32} : (mw cA ad r).set 10 (ad 10, .inl (cA 0, 24, .inl (upd (r 10) j x))) = mw cA ad (up r 10 j x) := rfl
theorem ms_11 {j : Nat} {x : Int32} : (mw cA ad r).set 11 (ad 11, .inl (cA 0, 24, .inl (upd (r 11) j x))) = mw cA ad (up r 11 j x) := rfl
theorem ms_12 {j : Nat} {x : Int32} : (mw cA ad r).set 12 (ad 12, .inl (cA 0, 24, .inl (upd (r 12) j x))) = mw cA ad (up r 12 j x) := rfl
theorem ms_13 {j : Nat} {x : Int32} : (mw cA ad r).set 13 (ad 13, .inl (cA 0, 24, .inl (upd (r 13) j x))) = mw cA ad (up r 13 j x) := rfl
theorem ms_14 {j : Nat} {x : Int32} : (mw cA ad r).set 14 (ad 14, .inl (cA 1, 24, .inl (upd (r 14) j x))) = mw cA ad (up r 14 j x) := rfl
theorem ms_15 {j : Nat} {x : Int32} : (mw cA ad r).set 15 (ad 15, .inl (cA 1, 24, .inl (upd (r 15) j x))) = mw cA ad (up r 15 j x) := rfl
theorem ms_16 {j : Nat} {x : Int32} : (mw cA ad r).set 16 (ad 16, .inl (cA 1, 24, .inl (upd (r 16) j x))) = mw cA ad (up r 16 j x) := rfl
theorem ms_17 {j : Nat} {x : Int32} : (mw cA ad r).set 17 (ad 17, .inl (cA 1, 24, .inl (upd (r 17) j x))) = mw cA ad (up r 17 j x) := rfl
theorem ms_18 {j : Nat} {x : Int32} : (mw cA ad r).set 18 (ad 18, .inl (cA 0, 24, .inl (upd (r 18) j x))) = mw cA ad (up r 18 j x) := rfl
theorem ms_19 {j : Nat} {x : Int32} : (mw cA ad r).set 19 (ad 19, .inl (cA 0, 96, .inl (upd (r 19) j x))) = mw cA ad (up r 19 j x) := rfl
theorem ms_20 {j : Nat} {x : Int32} : (mw cA ad r).set 20 (ad 20, .inl (cA 0, 4, .inl (upd (r 20) j x))) = mw cA ad (up r 20 j x) := rfl
theorem ms_21 {j : Nat} {x : Int32} : (mw cA ad r).set 21 (ad 21, .inl (cA 0, 4, .inl (upd (r 21) j x))) = mw cA ad (up r 21 j x) := rfl
theorem ms_22 {j : Nat} {x : Int32} : (mw cA ad r).set 22 (ad 22, .inl (cA 0, 4, .inl (upd (r 22) j x))) = mw cA ad (up r 22 j x) := rfl
theorem ms_23 {j : Nat} {x : Int32} : (mw cA ad r).set 23 (ad 23, .inl (cA 0, 4, .inl (upd (r 23) j x))) = mw cA ad (up r 23 j x) := rfl
theorem ms_24 {j : Nat} {x : Int32} : (mw cA ad r).set 24 (ad 24, .inl (cA 0, 4, .inl (upd (r 24) j x))) = mw cA ad (up r 24 j x) := rfl
theorem ms_25 {j : Nat} {x : Int32} : (mw cA ad r).set 25 (ad 25, .inl (cA 0, 4, .inl (upd (r 25) j x))) = mw cA ad (up r 25 j x) := rfl
end MW
