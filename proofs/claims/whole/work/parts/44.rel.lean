/-! the relation of both sides -/
def R_S (c r : St) (n ni ns hs : Nat) : Prop := (n ≤ 24 ∧ ni ≤ 4 ∧ ns ≤ 4 ∧ hs ≤ 512) ∧ (c 0 4 = nI n ∧ r 0 3 = nI n) ∧ (c 0 0 = nI ni ∧ r 0 4 = nI ni) ∧ (c 0 3 = nI ns ∧ r 0 2 = nI ns) ∧ (c 0 1 = r 0 1 ∧ ∃ k, k < 65536 ∧ r 0 1 = nI k) ∧ (∃ d, d < 100 ∧ c 0 2 = nI d ∧ r 0 5 = nI d) ∧ c 0 5 = nI hs
def R_H (c r : St) (ns j : Nat) : Prop := (c 1 j = r 1 j ∧ c 2 j = r 3 j ∧ c 20 j = r 2 j) ∧ (∃ s, s < ns ∧ r 1 j = nI s) ∧ (∃ g, g < 3 ∧ r 3 j = nI g) ∧ ∃ p, p < 100 ∧ r 2 j = nI p
def isSt (x : Int32) : Prop := x = 117 ∨ x = 119 ∨ x = 97 ∨ x = 114 ∨ x = 103 ∨ x = 101
def R_D (c r : St) (ni j : Nat) : Prop := (c 21 j = r 4 j ∧ isSt (r 4 j)) ∧ (r 4 j = 119 → c 22 j = r 5 j) ∧ (c 23 j = r 6 j ∧ (r 4 j = 97 → r 12 j = r 6 j)) ∧ (c 24 j = r 7 j ∧ c 25 j = r 8 j ∧ c 26 j = r 9 j) ∧ (r 4 j = 119 ∨ r 4 j = 97 ∨ r 4 j = 117 → (∃ k, k < 3 ∧ r 7 j = nI k) ∧ ∃ k, k < 2 ∧ r 8 j = nI k) ∧ (c 27 j = r 18 j ∧ c 28 j = r 17 j ∧ c 29 j = r 16 j ∧ c 30 j = r 15 j) ∧ (r 18 j = -1 ∨ ∃ i, i < ni ∧ r 18 j = nI i) ∧ (¬ r 18 j = -1 → r 17 j = 0 → r 4 j = 119) ∧ (r 17 j = 0 → r 16 j = 0)
def R_A (c r : St) (ni j : Nat) : Prop := (¬ c 5 j = 0 ↔ r 4 j = 97) ∧ (r 4 j = 97 → (c 6 j = r 10 j ∧ ∃ a, a < 10 ∧ r 10 j = nI a) ∧ c 7 j = r 11 j ∧ ∃ v, v < ni ∧ r 11 j = nI v ∧ ∃ f, f < 2 ∧ r 25 v = nI f)
def R_F (c r : St) (j : Nat) : Prop := c 5 j = 0 ∧ r 6 j = 0 ∧ r 7 j = 0 ∧ r 8 j = 0 ∧ r 9 j = 0 ∧ r 15 j = 0 ∧ r 16 j = 0 ∧ r 17 j = 0
def R_B (c r : St) : Prop := ∀ i, i < 4 → c 9 i = r 25 i ∧ ∃ f, f < 3 ∧ r 25 i = nI f
def R_I (c r : St) (i : Nat) : Prop := (c 31 i = r 22 i ∧ c 32 i = r 23 i ∧ c 33 i = r 24 i ∧ ∃ p, p < 100 ∧ r 22 i = nI p) ∧ (c 34 i = r 20 i ∧ ∃ z, z < 25 ∧ r 20 i = nI z ∧ ∀ k, k < z → c 40 (4 * k + i) = r 19 (24 * i + k)) ∧ c 36 i + c_abs (c 35 i - c 31 i) = r 21 i
def R_J (r : St) (ni : Nat) : Prop := ∀ i, ni ≤ i → i < 4 → r 20 i = 0 ∧ r 21 i = 0
def R_T (c r : St) (n : Nat) : Prop := (∀ k, k < 4 → c 3 k = nI (gT (r 1) (r 4) (r 14) n k)) ∧ ∀ k, k < 3 → c 4 k = nI (gT (r 3) (r 4) (r 14) n k)
def AG (d c : St) : Prop := (∀ j, j < 24 → (d 10 j = 0 ↔ c 5 j = 0) ∧ (¬ c 5 j = 0 → d 11 j = c 6 j ∧ d 12 j = c 7 j)) ∧ ∀ i, i < 4 → d 14 i = c 9 i
def R_E (c : St) (hs : Nat) (E : Nat → Ev) : Prop := (∀ k, k < hs → e_ok (E k) ∧ c 15 k = e_w (E k)) ∧ tk_ok 10 c ∧ ∀ d, tk_ok 10 d → AG (c_re 10 d E hs) c
def R_W (c r : St) (n ns : Nat) : Prop := (∀ j, j < n → r 4 j = 97 → c 8 j = nI (n_wr r n ns j)) ∧ ∀ j, j < 24 → c 5 j = 0 → c 8 j = 0
def Relx (c r : St) (n ni ns hs : Nat) : Prop := R_S c r n ni ns hs ∧ (∀ j, j < n → R_H c r ns j ∧ R_D c r ni j ∧ R_A c r ni j) ∧ (∀ j, n ≤ j → j < 24 → R_F c r j) ∧ R_B c r ∧ (∀ i, i < ni → R_I c r i) ∧ R_J r ni ∧ ∃ E, R_E c hs E
def Rel0 (c r : St) (n ni ns hs : Nat) : Prop := Relx c r n ni ns hs ∧ R_T c r n
def Rel (c r : St) (n ni ns hs : Nat) : Prop := Rel0 c r n ni ns hs ∧ R_W c r n ns
/-! what the pieces rest on -/
theorem R_H_c {c r c' r' : St} {ns ns' j : Nat} (hc : ∀ q, q = 1 ∨ q = 2 ∨ q = 20 → c' q j = c q j) (hr : ∀ q, q = 1 ∨ q = 2 ∨ q = 3 → r' q j = r q j) (hn : ns ≤ ns') (h : R_H c r ns j) : R_H c' r' ns' j := by
  obtain ⟨h1, ⟨s, hs, h2⟩, h3⟩ := h
  unfold R_H
  rw [hc 1 (by omega), hc 2 (by omega), hc 20 (by omega), hr 1 (by omega), hr 2 (by omega), hr 3 (by omega)]
  exact ⟨h1, ⟨s, by omega, h2⟩, h3⟩
theorem R_D_c {c r c' r' : St} {ni ni' j : Nat} (hc : ∀ q, 21 ≤ q → q ≤ 30 → c' q j = c q j) (hr : ∀ q, 4 ≤ q → q ≤ 18 → q ≠ 13 → q ≠ 14 → q ≠ 10 → q ≠ 11 → r' q j = r q j) (hn : ni ≤ ni') (h : R_D c r ni j) : R_D c' r' ni' j := by
  obtain ⟨h1, h2, h3, h4, h5, h6, h7, h8⟩ := h
  unfold R_D
  rw [hc 21 (by omega) (by omega), hc 22 (by omega) (by omega), hc 23 (by omega) (by omega), hc 24 (by omega) (by omega), hc 25 (by omega) (by omega), hc 26 (by omega) (by omega), hc 27 (by omega) (by omega), hc 28 (by omega) (by omega), hc 29 (by omega) (by omega), hc 30 (by omega) (by omega), hr 4 (by omega) (by omega) (by omega) (by omega) (by omega) (by omega), hr 5 (by omega) (by omega) (by omega) (by omega) (by omega) (by omega), hr 6 (by omega) (by omega) (by omega) (by omega) (by omega) (by omega), hr 7 (by omega) (by omega) (by omega) (by omega) (by omega) (by omega), hr 8 (by omega) (by omega) (by omega) (by omega) (by omega) (by omega), hr 9 (by omega) (by omega) (by omega) (by omega) (by omega) (by omega), hr 12 (by omega) (by omega) (by omega) (by omega) (by omega) (by omega), hr 15 (by omega) (by omega) (by omega) (by omega) (by omega) (by omega), hr 16 (by omega) (by omega) (by omega) (by omega) (by omega) (by omega), hr 17 (by omega) (by omega) (by omega) (by omega) (by omega) (by omega), hr 18 (by omega) (by omega) (by omega) (by omega) (by omega) (by omega)]
  exact ⟨h1, h2, h3, h4, h5, h6, h7.imp id (fun ⟨i, hi, e⟩ => ⟨i, by omega, e⟩), h8⟩
theorem R_A_c {c r c' r' : St} {ni ni' j : Nat} (hc : ∀ q, 5 ≤ q → q ≤ 7 → c' q j = c q j) (hr : ∀ q, q = 4 ∨ q = 10 ∨ q = 11 → r' q j = r q j) (hb : r' 25 = r 25) (hn : ni ≤ ni') (h : R_A c r ni j) : R_A c' r' ni' j := by
  obtain ⟨h1, h2⟩ := h
  unfold R_A
  rw [hc 5 (by omega) (by omega), hc 6 (by omega) (by omega), hc 7 (by omega) (by omega), hr 4 (by omega), hr 10 (by omega), hr 11 (by omega), hb]
  refine ⟨h1, fun q => ?_⟩
  obtain ⟨a, b, v, hv, d⟩ := h2 q
  exact ⟨a, b, v, by omega, d⟩
theorem R_F_c {c r c' r' : St} {j : Nat} (hc : c' 5 j = c 5 j) (hr : ∀ q, 6 ≤ q → q ≤ 17 → q < 10 ∨ 14 < q → r' q j = r q j) (h : R_F c r j) : R_F c' r' j := by
  unfold R_F
  rw [hc, hr 6 (by omega) (by omega) (by omega), hr 7 (by omega) (by omega) (by omega), hr 8 (by omega) (by omega) (by omega), hr 9 (by omega) (by omega) (by omega), hr 15 (by omega) (by omega) (by omega), hr 16 (by omega) (by omega) (by omega), hr 17 (by omega) (by omega) (by omega)]
  exact h
theorem R_B_c {c r c' r' : St} (hc : c' 9 = c 9) (hr : r' 25 = r 25) (h : R_B c r) : R_B c' r' := by
  unfold R_B
  rw [hc, hr]
  exact h
theorem R_I_c {c r c' r' : St} {i : Nat} (hc : ∀ q, 31 ≤ q → q ≤ 36 → c' q i = c q i) (hr : ∀ q, 20 ≤ q → q ≤ 24 → r' q i = r q i) (h40 : ∀ k, c' 40 (4 * k + i) = c 40 (4 * k + i)) (h19 : r' 19 = r 19) (h : R_I c r i) : R_I c' r' i := by
  unfold R_I
  rw [hc 31 (by omega) (by omega), hc 32 (by omega) (by omega), hc 33 (by omega) (by omega), hc 34 (by omega) (by omega), hc 35 (by omega) (by omega), hc 36 (by omega) (by omega), hr 20 (by omega) (by omega), hr 21 (by omega) (by omega), hr 22 (by omega) (by omega), hr 23 (by omega) (by omega), hr 24 (by omega) (by omega), h19]
  obtain ⟨h1, ⟨h2, z, hz, e, h3⟩, h4⟩ := h
  exact ⟨h1, ⟨h2, z, hz, e, fun k hk => (h40 k).trans (h3 k hk)⟩, h4⟩
theorem R_J_c {r r' : St} {ni ni' : Nat} (h20 : r' 20 = r 20) (h21 : r' 21 = r 21) (hn : ni ≤ ni') (h : R_J r ni) : R_J r' ni' := by
  intro i h1 h2
  rw [h20, h21]
  exact h i (by omega) h2
theorem R_T_c {c r c' r' : St} {n : Nat} (h3 : c' 3 = c 3) (h4 : c' 4 = c 4) (t1 : ∀ k, gT (r' 1) (r' 4) (r' 14) n k = gT (r 1) (r 4) (r 14) n k) (t3 : ∀ k, gT (r' 3) (r' 4) (r' 14) n k = gT (r 3) (r 4) (r 14) n k) (h : R_T c r n) : R_T c' r' n := by
  unfold R_T
  rw [h3, h4]
  refine ⟨fun k hk => ?_, fun k hk => ?_⟩
  · rw [t1]; exact h.1 k hk
  · rw [t3]; exact h.2 k hk
theorem AG_c {d c c' : St} (h5 : ∀ j, j < 24 → c' 5 j = c 5 j) (h6 : c' 6 = c 6) (h7 : c' 7 = c 7) (h9 : c' 9 = c 9) (h : AG d c) : AG d c' := by
  refine ⟨fun j hj => ?_, fun i hi => ?_⟩
  · rw [h5 j hj, h6, h7]; exact h.1 j hj
  · rw [h9]; exact h.2 i hi
theorem R_E_c {c c' : St} {hs : Nat} {E : Nat → Ev} (h15 : c' 15 = c 15) (h5 : ∀ j, j < 24 → c' 5 j = c 5 j) (h6 : c' 6 = c 6) (h7 : c' 7 = c 7) (h9 : c' 9 = c 9) (hk : tk_ok 10 c') (h : R_E c hs E) : R_E c' hs E := by
  obtain ⟨h1, -, h3⟩ := h
  exact ⟨fun k hk => by rw [h15]; exact h1 k hk, hk, fun d hd => AG_c h5 h6 h7 h9 (h3 d hd)⟩
theorem tk_c {c c' : St} (h : c' 12 = c 12) (hk : tk_ok 10 c) : tk_ok 10 c' := by
  intro j hj
  show ∃ v, v < 4 ∧ c' 12 j = nI v
  rw [h]
  exact hk j hj
theorem c_re_cong {E E' : Nat → Ev} {d : St} : ∀ {m : Nat}, (∀ k, k < m → E' k = E k) → c_re 10 d E' m = c_re 10 d E m
  | 0, _ => rfl
  | m + 1, h => by
    show c_one 10 (c_re 10 d E' m) (E' m) = c_one 10 (c_re 10 d E m) (E m)
    rw [c_re_cong (fun k hk => h k (by omega)), h m (by omega)]
theorem R_E_p {c c' : St} {hs : Nat} {E : Nat → Ev} {ev : Ev} (h : R_E c hs E) (he : e_ok ev) (h15 : c' 15 = upd (c 15) hs (e_w ev)) (hk : tk_ok 10 c') (ha : ∀ d, tk_ok 10 d → AG d c → AG (c_one 10 d ev) c') : R_E c' (hs + 1) (fun k => if k = hs then ev else E k) := by
  obtain ⟨h1, h2, h3⟩ := h
  refine ⟨fun k hk => ?_, hk, fun d hd => ?_⟩
  · rw [h15]
    by_cases z : k = hs
    · have e : (fun k => if k = hs then ev else E k) k = ev := if_pos z
      rw [e, z]
      exact ⟨he, if_pos rfl⟩
    · have e : (fun k => if k = hs then ev else E k) k = E k := if_neg z
      rw [e]
      exact ⟨(h1 k (by omega)).1, (if_neg z).trans (h1 k (by omega)).2⟩
  · show AG (c_one 10 (c_re 10 d (fun k => if k = hs then ev else E k) hs) (if hs = hs then ev else E hs)) c'
    rw [if_pos rfl, c_re_cong (E := E) (fun k hk => if_neg (by omega))]
    refine ha _ ?_ (h3 d hd)
    exact c_re_tk hd (fun k hk => (h1 k hk).1) hs (Nat.le_refl _)
/-- a step of the history -/
theorem AG_n {d c c' : St} {ev : Ev} (h0 : ¬ ev.1 = 97) (h1 : ¬ ev.1 = 99) (h5 : c' 5 = c 5) (h6 : c' 6 = c 6) (h7 : c' 7 = c 7) (h9 : c' 9 = c 9) (h : AG d c) : AG (c_one 10 d ev) c' := by
  rw [c_one_n h0 h1]
  exact AG_c (fun j _ => by rw [h5]) h6 h7 h9 h
theorem upd_at {f : Nat → Int32} {k : Nat} {v : Int32} : upd f k v k = v := if_pos rfl
theorem upd_off {f : Nat → Int32} {k j : Nat} {v : Int32} (h : j ≠ k) : upd f k v j = f j := if_neg h
theorem AG_t {d c c' : St} {hh v a : Nat} (h5 : c' 5 = upd (c 5) hh 1) (h6 : c' 6 = upd (c 6) hh (nI a)) (h7 : c' 7 = upd (c 7) hh (nI v)) (h9 : c' 9 = c 9) (h : AG d c) : AG (c_one 10 d (97, hh, v, a)) c' := by
  rw [c_one_t rfl]
  unfold c_take
  refine ⟨fun j hj => ?_, fun i hi => ?_⟩
  · rw [h5, h6, h7]
    show (up (up (up d 10 hh 1) 11 hh (nI a)) 12 hh (nI v) 10 j = 0 ↔ _) ∧ (_ → up (up (up d 10 hh 1) 11 hh (nI a)) 12 hh (nI v) 11 j = _ ∧ up (up (up d 10 hh 1) 11 hh (nI a)) 12 hh (nI v) 12 j = _)
    by_cases z : j = hh
    · subst z
      rw [up_row (by decide), up_row (by decide), up_at, upd_at, upd_at, upd_at, up_row (by decide), up_at, up_at]
      exact ⟨Iff.rfl, fun _ => ⟨rfl, rfl⟩⟩
    · rw [up_row (by decide), up_row (by decide), up_off z, upd_off z, upd_off z, upd_off z, up_row (by decide), up_off z, up_row (by decide), up_off z, up_row (by decide), up_row (by decide)]
      exact h.1 j hj
  · rw [h9]
    show up (up (up d 10 hh 1) 11 hh (nI a)) 12 hh (nI v) 14 i = _
    rw [up_row (by decide), up_row (by decide), up_row (by decide)]
    exact h.2 i hi
theorem AG_s {d c c' : St} {hh v a : Nat} (hj : hh < 24) (h0 : ¬ c 5 hh = 0) (hd : c 6 hh = nI a) (h5 : c' 5 = c 5) (h6 : c' 6 = c 6) (h7 : c' 7 = c 7) (h9 : c' 9 = c 9) (h : AG d c) : AG (c_one 10 d (99, hh, v, a)) c' := by
  have z := h.1 hh hj
  have e : c_one 10 d (99, hh, v, a) = d := by
    rw [c_one_c (show ¬ (99 : Int32) = 97 by decide) rfl]
    exact c_ask_s (fun q => h0 (z.1.mp q)) ((z.2 h0).1.trans hd)
  rw [e]
  exact AG_c (fun j _ => by rw [h5]) h6 h7 h9 h
theorem AG_d {d c c' : St} {hh w v a : Nat} (hj : hh < 24) (hv : v < 4) (h0 : ¬ c 5 hh = 0) (hd : ¬ c 6 hh = nI a) (hw : c 7 hh = nI v) (h2 : c 9 v + 1 < 2) (h5 : c' 5 = c 5) (h6 : c' 6 = c 6) (h7 : c' 7 = c 7) (h9 : c' 9 = upd (c 9) v (c 9 v + 1)) (h : AG d c) : AG (c_one 10 d (99, hh, w, a)) c' := by
  have z := h.1 hh hj
  have e : c_one 10 d (99, hh, w, a) = up d 14 v (d 14 v + 1) := by
    rw [c_one_c (show ¬ (99 : Int32) = 97 by decide) rfl]
    exact c_ask_d (fun q => h0 (z.1.mp q)) (fun q => hd ((z.2 h0).1.symm.trans q)) hv ((z.2 h0).2.trans hw) (by rw [h.2 v hv]; exact h2)
  rw [e]
  refine ⟨fun j hj => ?_, fun i hi => ?_⟩
  · rw [h5, h6, h7, up_row (by decide), up_row (by decide), up_row (by decide)]; exact h.1 j hj
  · rw [h9, up_eq, h.2 v hv]
    by_cases y : i = v
    · subst y; rw [upd_at, upd_at]
    · rw [upd_off y, upd_off y]; exact h.2 i hi
theorem c_dr_at {tk f : Nat → Int32} {v : Int32} : ∀ {n j : Nat}, c_dr tk v f n j = if j < n ∧ tk j = v then 0 else f j
  | 0, j => by rw [if_neg (by omega)]; rfl
  | n + 1, j => by
    have ih := c_dr_at (tk := tk) (f := f) (v := v) (n := n) (j := j)
    by_cases z : tk n = v
    · rw [c_dr_t z]
      by_cases e : j = n
      · subst e; rw [upd_at, if_pos ⟨by omega, z⟩]
      · rw [upd_off e, ih]
        by_cases y : j < n ∧ tk j = v
        · rw [if_pos y, if_pos ⟨by omega, y.2⟩]
        · rw [if_neg y, if_neg (fun q => y ⟨by omega, q.2⟩)]
    · rw [c_dr_f z, ih]
      by_cases y : j < n ∧ tk j = v
      · rw [if_pos y, if_pos ⟨by omega, y.2⟩]
      · rw [if_neg y, if_neg (fun q => by
          by_cases e : j = n
          · subst e; exact z q.2
          · exact y ⟨by omega, q.2⟩)]
theorem AG_b {d c c' : St} {hh w v a : Nat} (hj : hh < 24) (hv : v < 4) (h0 : ¬ c 5 hh = 0) (hd : ¬ c 6 hh = nI a) (hw : c 7 hh = nI v) (h2 : ¬ c 9 v + 1 < 2) (h5 : c' 5 = c_dr (c 7) (nI v) (c 5) 24) (h6 : c' 6 = c 6) (h7 : c' 7 = c 7) (h9 : c' 9 = upd (c 9) v (c 9 v + 1)) (h : AG d c) : AG (c_one 10 d (99, hh, w, a)) c' := by
  have z := h.1 hh hj
  have e : c_one 10 d (99, hh, w, a) = upr (up d 14 v (d 14 v + 1)) 10 (c_dr (d 12) (nI v) (d 10) 24) := by
    rw [c_one_c (show ¬ (99 : Int32) = 97 by decide) rfl]
    exact c_ask_b (fun q => h0 (z.1.mp q)) (fun q => hd ((z.2 h0).1.symm.trans q)) hv ((z.2 h0).2.trans hw) (by rw [h.2 v hv]; exact h2)
  rw [e]
  refine ⟨fun j hj => ?_, fun i hi => ?_⟩
  · rw [h5, h6, h7, upr_at, upr_row (by decide), upr_row (by decide), up_row (by decide), up_row (by decide), c_dr_at, c_dr_at]
    have y := h.1 j hj
    by_cases x : c 5 j = 0
    · have x2 := y.1.mpr x
      rw [x, x2]
      simp
    · obtain ⟨y1, y2⟩ := y
      obtain ⟨y3, y4⟩ := y2 x
      rw [y4]
      by_cases u : j < 24 ∧ c 7 j = nI v
      · rw [if_pos u, if_pos u]; exact ⟨Iff.rfl, fun q => absurd rfl q⟩
      · rw [if_neg u, if_neg u]; exact ⟨y1, fun _ => ⟨y3, rfl⟩⟩
  · rw [h9, upr_row (by decide), up_eq, h.2 v hv]
    by_cases y : i = v
    · subst y; rw [upd_at, upd_at]
    · rw [upd_off y, upd_off y]; exact h.2 i hi
/-! states that the relation doesn't tell apart -/
theorem Relx_g {c r c' r' : St} {n ni ns ns' hs : Nat} (hc : ∀ q, q ≠ 0 → q ≠ 3 → q ≠ 4 → q ≠ 8 → q < 10 ∨ 14 < q → c' q = c q) (hk : tk_ok 10 c → tk_ok 10 c') (hr : ∀ q, q ≠ 0 → q ≠ 13 → r' q = r q) (hns : ns ≤ ns') (hS : R_S c r n ni ns hs → R_S c' r' n ni ns' hs) (h : Relx c r n ni ns hs) : Relx c' r' n ni ns' hs := by
  obtain ⟨h1, h2, h3, h4, h5, h6, E, h8⟩ := h
  have hc' : ∀ q, 5 ≤ q → q ≠ 8 → q < 10 ∨ 14 < q → c' q = c q := fun q a b d => hc q (by omega) (by omega) (by omega) b d
  exact ⟨hS h1, fun j hj => ⟨R_H_c (fun q hq => by rw [hc q (by omega) (by omega) (by omega) (by omega) (by omega)]) (fun q hq => by rw [hr q (by omega) (by omega)]) hns (h2 j hj).1, R_D_c (fun q h1 h2 => by rw [hc' q (by omega) (by omega) (by omega)]) (fun q h1 h2 h3 _ _ _ => by rw [hr q (by omega) (by omega)]) (Nat.le_refl _) (h2 j hj).2.1, R_A_c (fun q h1 h2 => by rw [hc' q (by omega) (by omega) (by omega)]) (fun q hq => by rw [hr q (by omega) (by omega)]) (hr 25 (by omega) (by omega)) (Nat.le_refl _) (h2 j hj).2.2⟩, fun j ha hb => R_F_c (by rw [hc' 5 (by omega) (by omega) (by omega)]) (fun q h1 h2 h3 => by rw [hr q (by omega) (by omega)]) (h3 j ha hb), R_B_c (hc' 9 (by omega) (by omega) (by omega)) (hr 25 (by omega) (by omega)) h4, fun i hi => R_I_c (fun q h1 h2 => by rw [hc' q (by omega) (by omega) (by omega)]) (fun q h1 h2 => by rw [hr q (by omega) (by omega)]) (fun k => by rw [hc' 40 (by omega) (by omega) (by omega)]) (hr 19 (by omega) (by omega)) (h5 i hi), R_J_c (hr 20 (by omega) (by omega)) (hr 21 (by omega) (by omega)) (Nat.le_refl _) h6, E, R_E_c (hc' 15 (by omega) (by omega) (by omega)) (fun j _ => by rw [hc' 5 (by omega) (by omega) (by omega)]) (hc' 6 (by omega) (by omega) (by omega)) (hc' 7 (by omega) (by omega) (by omega)) (hc' 9 (by omega) (by omega) (by omega)) (hk h8.2.1) h8⟩
theorem Rel0_g {c r c' r' : St} {n ni ns ns' hs : Nat} (hc : ∀ q, q ≠ 0 → q ≠ 8 → q < 10 ∨ 14 < q → c' q = c q) (hk : tk_ok 10 c → tk_ok 10 c') (hr : ∀ q, q ≠ 0 → q ≠ 13 → r' q = r q) (hns : ns ≤ ns') (hS : R_S c r n ni ns hs → R_S c' r' n ni ns' hs) (h : Rel0 c r n ni ns hs) : Rel0 c' r' n ni ns' hs :=
  ⟨Relx_g (fun q a _ _ b d => hc q a b d) hk hr hns hS h.1, R_T_c (hc 3 (by omega) (by omega) (by omega)) (hc 4 (by omega) (by omega) (by omega)) (fun k => by rw [hr 1 (by omega) (by omega), hr 4 (by omega) (by omega), hr 14 (by omega) (by omega)]) (fun k => by rw [hr 3 (by omega) (by omega), hr 4 (by omega) (by omega), hr 14 (by omega) (by omega)]) h.2⟩
theorem R_S_c {c r c' r' : St} {n ni ns hs : Nat} (hc0 : c' 0 = c 0) (hr0 : ∀ i, i ≠ 0 → r' 0 i = r 0 i) (h : R_S c r n ni ns hs) : R_S c' r' n ni ns hs := by
  unfold R_S
  rw [hc0, hr0 1 (by omega), hr0 2 (by omega), hr0 3 (by omega), hr0 4 (by omega), hr0 5 (by omega)]
  exact h
theorem Rel0_c {c r c' r' : St} {n ni ns hs : Nat} (hc : ∀ q, q ≠ 0 → q ≠ 8 → q < 10 ∨ 14 < q → c' q = c q) (hc0 : c' 0 = c 0) (hk : tk_ok 10 c → tk_ok 10 c') (hr : ∀ q, q ≠ 0 → q ≠ 13 → r' q = r q) (hr0 : ∀ i, i ≠ 0 → r' 0 i = r 0 i) (h : Rel0 c r n ni ns hs) : Rel0 c' r' n ni ns hs :=
  Rel0_g hc hk hr (Nat.le_refl _) (R_S_c hc0 hr0) h
theorem R_W_c {c r c' r' : St} {n ns : Nat} (h5 : c' 5 = c 5) (h8 : c' 8 = c 8) (hr : ∀ q, q ≠ 0 → q ≠ 13 → r' q = r q) (h : R_W c r n ns) : R_W c' r' n ns := by
  have e : n_wr r' n ns = n_wr r n ns := by
    unfold n_wr
    rw [hr 1 (by omega) (by omega), hr 3 (by omega) (by omega), hr 4 (by omega) (by omega), hr 14 (by omega) (by omega)]
  unfold R_W
  rw [e, h5, h8, hr 4 (by omega) (by omega)]
  exact h
theorem Rel_c {c r c' r' : St} {n ni ns hs : Nat} (hc : ∀ q, q ≠ 0 → q < 10 ∨ 14 < q → c' q = c q) (hc0 : c' 0 = c 0) (hk : tk_ok 10 c → tk_ok 10 c') (hr : ∀ q, q ≠ 0 → q ≠ 13 → r' q = r q) (hr0 : ∀ i, i ≠ 0 → r' 0 i = r 0 i) (h : Rel c r n ni ns hs) : Rel c' r' n ni ns hs :=
  ⟨Rel0_c (fun q h1 _ h2 => hc q h1 h2) hc0 hk hr hr0 h.1, R_W_c (hc 5 (by omega) (by omega)) (hc 8 (by omega) (by omega)) hr h.2⟩
theorem Rel_t {c r : St} {n ni ns hs : Nat} {x : Int32} (h : Rel c r n ni ns hs) : Rel c (up r 0 0 x) n ni ns hs := Rel_c (fun _ _ _ => rfl) rfl id (fun q h1 _ => up_row h1) (fun i hi => up_off hi) h
theorem Rel_w {c r : St} {n ni ns hs : Nat} {w : Nat → Int32} (h : Rel c r n ni ns hs) : Rel c (upr r 13 w) n ni ns hs := Rel_c (fun _ _ _ => rfl) rfl id (fun q _ h2 => upr_row h2) (fun i _ => by rw [upr_row (by decide)]) h
theorem Rel0_WW {c r : St} {n ni ns hs : Nat} (h : Rel0 c r n ni ns hs) : WW c 5 r n ns := by
  obtain ⟨⟨h1, h2, -⟩, h7⟩ := h
  exact ⟨⟨h1.1.1, h1.1.2.2.1⟩, fun j hj => ⟨(h2 j hj).1.1.1, (h2 j hj).1.1.2.1, (h2 j hj).2.2.1, (h2 j hj).1.2.1⟩, h7.1, h7.2⟩
theorem Rel_fin {c r : St} {n ni ns hs : Nat} (h : Rel0 c r n ni ns hs) : Rel (c_fin c n) r n ni ns hs := by
  have hw := Rel0_WW h
  have hn := h.1.1.1.1
  unfold c_fin
  refine ⟨Rel0_c (fun q h1 h2 h3 => upr_row h2) (upr_row (by decide)) (tk_c (upr_row (by decide))) (fun _ _ _ => rfl) (fun _ _ => rfl) h, fun j hj ha => ?_, fun j hj h0 => ?_⟩
  · rw [upr_at]; exact ww_wt hw hj ha
  · rw [upr_row (by decide)] at h0
    rw [upr_at]; exact cs_wt_off hj h0
