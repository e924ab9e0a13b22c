/-! a house more, an interviewer more -/
theorem ow_last {w : va_W} {b ci : Nat} {fs fs' : List Value} : ow (w ++ [(b, .inr (ci, fs))]) w.length b ci fs' [] = w ++ [(b, .inr (ci, fs'))] := by
  unfold ow
  rw [List.append_nil, List.set_append_right _ _ (Nat.le_refl _), Nat.sub_self]
  rfl
theorem gl_last {w : va_W} {x : Nat × va_E} : (w ++ [x])[w.length]? = some x := by simp
def c_nh (c : St) (n : Nat) (pl : Int32) : St := up (up (up (up (up (up (up (up (up (up (up c 20 n pl) 21 n 117) 22 n 0) 23 n 0) 24 n 0) 25 n 0) 26 n 0) 27 n (-1)) 28 n 0) 29 n 0) 30 n 0
theorem c_nh_lo {c : St} {n q : Nat} {pl : Int32} (h : q < 20 ∨ 30 < q) : c_nh c n pl q = c q := by
  unfold c_nh
  rw [up_row (by omega), up_row (by omega), up_row (by omega), up_row (by omega), up_row (by omega), up_row (by omega), up_row (by omega), up_row (by omega), up_row (by omega), up_row (by omega), up_row (by omega)]
theorem c_nh_off {c : St} {n q j : Nat} {pl : Int32} (h : j ≠ n) : c_nh c n pl q j = c q j := by
  have e : ∀ (c : St) (z : Nat) (v : Int32), up c z n v q j = c q j := by
    intro c z v
    by_cases y : q = z
    · subst y; exact up_off h
    · rw [up_row y]
  unfold c_nh
  rw [e, e, e, e, e, e, e, e, e, e, e]
def adH (ad : Nat → Nat) (n q : Nat) : Nat → Nat := fun k => if k = n then q else ad k
theorem adH_at {ad : Nat → Nat} {n q : Nat} : adH ad n q n = q := if_pos rfl
theorem adH_off {ad : Nat → Nat} {n q k : Nat} (h : k ≠ n) : adH ad n q k = ad k := if_neg h
theorem va_up_chs {ad : Nat → Nat} {n q : Nat} : va_up (chs ad n) n (some q) = chs (adH ad (30 + n) q) (n + 1) := by
  funext j
  unfold va_up chs
  by_cases h : j = n
  · subst h
    simp [adH]
  · by_cases h2 : j < n
    · simp [h, h2, adH, show j < n + 1 by omega, show ¬ 30 + j = 30 + n by omega]
    · simp [h, h2, show ¬ j < n + 1 by omega]
theorem perm5 {α : Type} (A B C D : List α) (x : α) : (A ++ (B ++ [x] ++ (C ++ D))).Perm (A ++ (B ++ (C ++ D)) ++ [x]) := by
  rw [List.append_assoc A, List.append_assoc B, List.append_assoc B]
  exact (List.perm_append_comm.append_left B).append_left A
def hcell (q : Nat) (pl : Int32) : Nat × va_E := (q, .inr (2, [.int pl, .int 117, .int 0, .int 0, .int 0, .int 0, .int 0, .int (-1), .int 0, .int 0, .int 0]))
theorem cw_addH {cA : Nat → ClassId} {ad : Nat → Nat} {n ni : Nat} {c : St} {q : Nat} {pl : Int32} (hn : n < 24) :
    (cw cA (adH ad (30 + n) q) (n + 1) ni (c_nh c n pl)).Perm ((cw cA ad n ni c ++ [hcell q pl]).set 6 (ad 6, .inl (cA 2, 24, .inr (.inr (.inr (.inr (va_up (chs ad n) n (some q)))))))) := by
  rw [va_up_chs]
  have e1 : (cfix cA ad n ni c).set 6 (ad 6, .inl (cA 2, 24, .inr (.inr (.inr (.inr (chs (adH ad (30 + n) q) (n + 1))))))) = cfix cA (adH ad (30 + n) q) (n + 1) ni (c_nh c n pl) := by
    have a : ∀ k, k < 22 → adH ad (30 + n) q k = ad k := fun k hk => adH_off (by omega)
    have b : ∀ z, z < 16 → c_nh c n pl z = c z := fun z hz => c_nh_lo (by omega)
    have d : cis (adH ad (30 + n) q) ni = cis ad ni := by
      funext j
      unfold cis
      rw [adH_off (by omega)]
    simp [cfix, cfb, cfr, chi, ct0, ct1, a, b, d]
  have e2 : (List.range n).map (chouse (adH ad (30 + n) q) (c_nh c n pl)) = (List.range n).map (chouse ad c) := by
    refine List.map_congr_left (fun j hj => ?_)
    have hj := List.mem_range.mp hj
    unfold chouse cho
    rw [adH_off (by omega)]
    simp only [c_nh_off (show j ≠ n by omega)]
  have e3 : (List.range ni).map (cint (adH ad (30 + n) q) (c_nh c n pl)) = (List.range ni).map (cint ad c) := by
    refine List.map_congr_left (fun j hj => ?_)
    unfold cint cin
    rw [adH_off (by omega), adH_off (by omega)]
    simp only [c_nh_lo (c := c) (n := n) (pl := pl) (q := 31) (by omega), c_nh_lo (c := c) (n := n) (pl := pl) (q := 32) (by omega), c_nh_lo (c := c) (n := n) (pl := pl) (q := 33) (by omega), c_nh_lo (c := c) (n := n) (pl := pl) (q := 34) (by omega), c_nh_lo (c := c) (n := n) (pl := pl) (q := 35) (by omega), c_nh_lo (c := c) (n := n) (pl := pl) (q := 36) (by omega)]
  have e4 : (List.range ni).map (cround cA (adH ad (30 + n) q) (c_nh c n pl)) = (List.range ni).map (cround cA ad c) := by
    refine List.map_congr_left (fun j hj => ?_)
    unfold cround
    rw [adH_off (by omega), c_nh_lo (by omega)]
  have e5 : chouse (adH ad (30 + n) q) (c_nh c n pl) n = hcell q pl := by
    unfold chouse cho hcell
    rw [adH_at]
    simp [c_nh, up_app]
  unfold cw
  rw [List.set_append_left _ _ (by simp [cfix_len]; omega), List.set_append_left _ _ (by rw [cfix_len]; decide), e1, List.range_succ, List.map_append, e2, e3, e4, List.map_singleton, e5]
  exact perm5 _ _ _ _ _
