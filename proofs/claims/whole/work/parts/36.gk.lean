/-! a house more, an interviewer more -/
theorem ow_last {w : va_W} {b ci : Nat} {fs fs' : List Value} : ow (w ++ [(b, .inr (ci, fs))]) w.length b ci fs' [] = w ++ [(b, .inr (ci, fs'))] := by
  unfold ow
  rw [List.append_nil, List.set_append_right _ _ (Nat.le_refl _), Nat.sub_self]
  rfl
theorem gl_last {w : va_W} {x : Nat × va_E} : (w ++ [x])[w.length]? = some x := by simp
def c_nh (c : St) (n : Nat) (pl : Int32) : St := up (up (up (up (up (up (up (up (up (up (up c 20 n pl) 21 n 117) 22 n 0) 23 n 0) 24 n 0) 25 n 0) 26 n 0) 27 n (-1)) 28 n 0) 29 n 0) 30 n 0
theorem c_nh_lo {c : St} {n q : Nat} {pl : Int32} (h : q < 20 ∨ 30 < q) : c_nh c n pl q = c q := by
  unfold c_nh
  rw [up_row (by omega), up_row (by omega), up_row (by omega), up_row (by omega), up_row (by omega), up_row (by omega), up_row (by omega), up_row (by omega), up_row (by omega), up_row (by omega), up_row (by omega)]
theorem c_nh_off {c : St} {n q j : Nat} {pl : Int32} (h : j ≠ n) : c_nh c n pl q j = c q j := by
  have e : ∀ (c : St) (z : Nat) (v : Int32), up c z n v q j = c q j := by
    intro c z v
    by_cases y : q = z
    · subst y; exact up_off h
    · rw [up_row y]
  unfold c_nh
  rw [e, e, e, e, e, e, e, e, e, e, e]
def adH (ad : Nat → Nat) (n q : Nat) : Nat → Nat := fun k => if k = n then q else ad k
theorem adH_at {ad : Nat → Nat} {n q : Nat} : adH ad n q n = q := if_pos rfl
theorem adH_off {ad : Nat → Nat} {n q k : Nat} (h : k ≠ n) : adH ad n q k = ad k := if_neg h
theorem va_up_chs {ad : Nat → Nat} {n q : Nat} : va_up (chs ad n) n (some q) = chs (adH ad (30 + n) q) (n + 1) := by
  funext j
  unfold va_up chs
  by_cases h : j = n
  · subst h
    simp [adH]
  · by_cases h2 : j < n
    · simp [h, h2, adH, show j < n + 1 by omega, show ¬ 30 + j = 30 + n by omega]
    · simp [h, h2, show ¬ j < n + 1 by omega]
theorem perm5 {α : Type} (A B C D : List α) (x : α) : (A ++ (B ++ [x] ++ (C ++ D))).Perm (A ++ (B ++ (C ++ D)) ++ [x]) := by
  rw [List.append_assoc A, List.append_assoc B, List.append_assoc B]
  exact (List.perm_append_comm.append_left B).append_left A
def hcell (q : Nat) (pl : Int32) : Nat × va_E := (q, .inr (2, [.int pl, .int 117, .int 0, .int 0, .int 0, .int 0, .int 0, .int (-1), .int 0, .int 0, .int 0]))
theorem cw_addH {cA : Nat → ClassId} {ad : Nat → Nat} {n ni : Nat} {c : St} {q : Nat} {pl : Int32} (hn : n < 24) :
    (cw cA (adH ad (30 + n) q) (n + 1) ni (c_nh c n pl)).Perm ((cw cA ad n ni c ++ [hcell q pl]).set 6 (ad 6, .inl (cA 2, 24, .inr (.inr (.inr (.inr (va_up (chs ad n) n (some q)))))))) := by
  rw [va_up_chs]
  have e1 : (cfix cA ad n ni c).set 6 (ad 6, .inl (cA 2, 24, .inr (.inr (.inr (.inr (chs (adH ad (30 + n) q) (n + 1))))))) = cfix cA (adH ad (30 + n) q) (n + 1) ni (c_nh c n pl) := by
    have a : ∀ k, k < 22 → adH ad (30 + n) q k = ad k := fun k hk => adH_off (by omega)
    have b : ∀ z, z < 16 → c_nh c n pl z = c z := fun z hz => c_nh_lo (by omega)
    have d : cis (adH ad (30 + n) q) ni = cis ad ni := by
      funext j
      unfold cis
      rw [adH_off (by omega)]
    simp [cfix, cfb, cfr, chi, ct0, ct1, a, b, d]
  have e2 : (List.range n).map (chouse (adH ad (30 + n) q) (c_nh c n pl)) = (List.range n).map (chouse ad c) := by
    refine List.map_congr_left (fun j hj => ?_)
    have hj := List.mem_range.mp hj
    unfold chouse cho
    rw [adH_off (by omega)]
    simp only [c_nh_off (show j ≠ n by omega)]
  have e3 : (List.range ni).map (cint (adH ad (30 + n) q) (c_nh c n pl)) = (List.range ni).map (cint ad c) := by
    refine List.map_congr_left (fun j hj => ?_)
    unfold cint cin
    rw [adH_off (by omega), adH_off (by omega)]
    simp only [c_nh_lo (c := c) (n := n) (pl := pl) (q := 31) (by omega), c_nh_lo (c := c) (n := n) (pl := pl) (q := 32) (by omega), c_nh_lo (c := c) (n := n) (pl := pl) (q := 33) (by omega), c_nh_lo (c := c) (n := n) (pl := pl) (q := 34) (by omega), c_nh_lo (c := c) (n := n) (pl := pl) (q := 35) (by omega), c_nh_lo (c := c) (n := n) (pl := pl) (q := 36) (by omega)]
  have e4 : (List.range ni).map (cround cA (adH ad (30 + n) q) (c_nh c n pl)) = (List.range ni).map (cround cA ad c) := by
    refine List.map_congr_left (fun j hj => ?_)
    unfold cround
    rw [adH_off (by omega), c_nh_lo (by omega)]
  have e5 : chouse (adH ad (30 + n) q) (c_nh c n pl) n = hcell q pl := by
    unfold chouse cho hcell
    rw [adH_at]
    simp [c_nh, up_app]
  unfold cw
  rw [List.set_append_left _ _ (by simp [cfix_len]; omega), List.set_append_left _ _ (by rw [cfix_len]; decide), e1, List.range_succ, List.map_append, e2, e3, e4, List.map_singleton, e5]
  exact perm5 _ _ _ _ _
/-- an interviewer more -/
def c_ni (c : St) (n : Nat) (x y z : Int32) : St := upr (up (up (up (up (up (up c 31 n x) 32 n y) 33 n z) 34 n 0) 35 n x) 36 n 0) 40 (fun k => if k % 4 = n then 0 else c 40 k)
theorem c_ni_lo {c : St} {n q : Nat} {x y z : Int32} (h : q < 31 ∨ (36 < q ∧ q ≠ 40)) : c_ni c n x y z q = c q := by
  unfold c_ni
  rw [upr_row (by omega), up_row (by omega), up_row (by omega), up_row (by omega), up_row (by omega), up_row (by omega), up_row (by omega)]
theorem c_ni_off {c : St} {n q j : Nat} {x y z : Int32} (h : j ≠ n) (hq : q ≠ 40) : c_ni c n x y z q j = c q j := by
  have e : ∀ (c : St) (z : Nat) (v : Int32), up c z n v q j = c q j := by
    intro c z v
    by_cases y : q = z
    · subst y; exact up_off h
    · rw [up_row y]
  unfold c_ni
  rw [upr_row hq, e, e, e, e, e, e]
theorem c_ni_40 {c : St} {n k : Nat} {x y z : Int32} : c_ni c n x y z 40 k = if k % 4 = n then 0 else c 40 k := by
  unfold c_ni
  rw [upr_at]
def adI (ad : Nat → Nat) (n q w : Nat) : Nat → Nat := fun k => if k = 60 + n then q else if k = 70 + n then w else ad k
theorem adI_q {ad : Nat → Nat} {n q w : Nat} : adI ad n q w (60 + n) = q := if_pos rfl
theorem adI_w {ad : Nat → Nat} {n q w : Nat} : adI ad n q w (70 + n) = w := by
  unfold adI
  rw [if_neg (by omega), if_pos rfl]
theorem adI_off {ad : Nat → Nat} {n q w k : Nat} (h1 : k ≠ 60 + n) (h2 : k ≠ 70 + n) : adI ad n q w k = ad k := by
  unfold adI
  rw [if_neg h1, if_neg h2]
theorem va_up_cis {ad : Nat → Nat} {n q w : Nat} (hn : n < 4) : va_up (cis ad n) n (some q) = cis (adI ad n q w) (n + 1) := by
  funext j
  unfold va_up cis
  by_cases h : j = n
  · subst h
    simp [adI_q]
  · by_cases h2 : j < n
    · have e : adI ad n q w (60 + j) = ad (60 + j) := adI_off (by omega) (by omega)
      simp [h, h2, e, show j < n + 1 by omega]
    · simp [h, h2, show ¬ j < n + 1 by omega]
def icell (q : Nat) (x y z : Int32) (w : Nat) : Nat × va_E := (q, .inr (3, [.int x, .int y, .int z, .ref w, .int 0, .int x, .int 0]))
def rcell (cA : Nat → ClassId) (w : Nat) : Nat × va_E := (w, .inl (cA 0, 24, .inl (fun _ => 0)))
theorem perm6 {α : Type} (A B C D : List α) (x y : α) : (A ++ (B ++ (C ++ [x] ++ (D ++ [y])))).Perm (A ++ (B ++ (C ++ D)) ++ [x, y]) := by
  rw [List.append_assoc A, List.append_assoc B, List.append_assoc C, List.append_assoc C]
  refine List.Perm.append_left A (List.Perm.append_left B (List.Perm.append_left C ?_))
  rw [← List.append_assoc]
  have h1 : ([x] ++ D ++ [y]).Perm (D ++ [x] ++ [y]) := List.Perm.append_right [y] List.perm_append_comm
  rw [List.append_assoc D] at h1
  exact h1
theorem cw_addI {cA : Nat → ClassId} {ad : Nat → Nat} {nh n : Nat} {c : St} {q w : Nat} {x y z : Int32} (hh : nh ≤ 24) (hn : n < 4) :
    (cw cA (adI ad n q w) nh (n + 1) (c_ni c n x y z)).Perm ((cw cA ad nh n c ++ [icell q x y z w, rcell cA w]).set 7 (ad 7, .inl (cA 3, 4, .inr (.inr (.inr (.inr (va_up (cis ad n) n (some q)))))))) := by
  rw [va_up_cis (w := w) hn]
  have e1 : (cfix cA ad nh n c).set 7 (ad 7, .inl (cA 3, 4, .inr (.inr (.inr (.inr (cis (adI ad n q w) (n + 1))))))) = cfix cA (adI ad n q w) nh (n + 1) (c_ni c n x y z) := by
    have a : ∀ k, k < 22 → adI ad n q w k = ad k := fun k hk => adI_off (by omega) (by omega)
    have b : ∀ k, k < 16 → c_ni c n x y z k = c k := fun k hk => c_ni_lo (by omega)
    have d : chs (adI ad n q w) nh = chs ad nh := by
      funext j
      unfold chs
      by_cases hj : j < nh
      · rw [if_pos hj, if_pos hj, adI_off (by omega) (by omega)]
      · rw [if_neg hj, if_neg hj]
    simp [cfix, cfb, cfr, chi, ct0, ct1, a, b, d]
  have e2 : (List.range nh).map (chouse (adI ad n q w) (c_ni c n x y z)) = (List.range nh).map (chouse ad c) := by
    refine List.map_congr_left (fun j hj => ?_)
    have hj := List.mem_range.mp hj
    have b : ∀ k, k < 31 → c_ni c n x y z k = c k := fun k hk => c_ni_lo (by omega)
    unfold chouse cho
    rw [adI_off (by omega) (by omega)]
    simp [b]
  have e3 : (List.range n).map (cint (adI ad n q w) (c_ni c n x y z)) = (List.range n).map (cint ad c) := by
    refine List.map_congr_left (fun j hj => ?_)
    have hj := List.mem_range.mp hj
    have b : ∀ k, k ≠ 40 → c_ni c n x y z k j = c k j := fun k hk => c_ni_off (by omega) hk
    unfold cint cin
    rw [adI_off (by omega) (by omega), adI_off (by omega) (by omega)]
    simp [b]
  have e4 : (List.range n).map (cround cA (adI ad n q w) (c_ni c n x y z)) = (List.range n).map (cround cA ad c) := by
    refine List.map_congr_left (fun j hj => ?_)
    have hj := List.mem_range.mp hj
    have b : (fun k => c_ni c n x y z 40 (4 * k + j)) = fun k => c 40 (4 * k + j) := by
      funext k
      rw [c_ni_40, if_neg (by omega)]
    unfold cround
    rw [adI_off (by omega) (by omega), b]
  have e5 : cint (adI ad n q w) (c_ni c n x y z) n = icell q x y z w := by
    unfold cint cin icell
    rw [adI_q, adI_w]
    simp [c_ni, up_app, upr_row]
  have e6 : cround cA (adI ad n q w) (c_ni c n x y z) n = rcell cA w := by
    have b : (fun k => c_ni c n x y z 40 (4 * k + n)) = fun _ => (0 : Int32) := by
      funext k
      rw [c_ni_40, if_pos (by omega)]
    unfold cround rcell
    rw [adI_w, b]
  unfold cw
  rw [List.set_append_left _ _ (by simp [cfix_len]; omega), List.set_append_left _ _ (by rw [cfix_len]; decide), e1, List.range_succ, List.map_append, List.map_append, e2, e3, e4, List.map_singleton, List.map_singleton, e5, e6]
  exact perm6 _ _ _ _ _ _
theorem ow_last2 {w : va_W} {b ci : Nat} {fs fs' : List Value} {x : Nat × va_E} : ow (w ++ [(b, .inr (ci, fs))]) w.length b ci fs' [x] = w ++ [(b, .inr (ci, fs')), x] := by
  unfold ow
  rw [List.set_append_right _ _ (Nat.le_refl _), Nat.sub_self, List.append_assoc]
  rfl
theorem gl_last2 {w : va_W} {x y : Nat × va_E} : (w ++ [x, y])[w.length]? = some x := by simp
