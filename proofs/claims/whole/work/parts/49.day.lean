/-! the end of a day -/
theorem i32_a1 (x : Int32) : x &&& 1 = 0 ∨ x &&& 1 = 1 := by
  have e : (x &&& 1).toBitVec = (BitVec.ofBool (x.toBitVec.getLsbD 0)).setWidth 32 := by
    rw [Int32.toBitVec_and]
    exact BitVec.and_one_eq_setWidth_ofBool_getLsbD
  cases h : x.toBitVec.getLsbD 0 with
  | false => left; apply Int32.toBitVec_inj.mp; rw [e, h]; rfl
  | true => right; apply Int32.toBitVec_inj.mp; rw [e, h]; rfl
theorem way_eq {p q : Nat} (hp : p < 100) (hq : q < 100) : c_abs (nI p - nI q) = m_way (nI q) (nI p) ∧ c_abs (nI p - nI q) = m_way (nI p) (nI q) :=
  (by decide +kernel : ∀ p : Fin 100, ∀ q : Fin 100, c_abs (nI p.1 - nI q.1) = m_way (nI q.1) (nI p.1) ∧ c_abs (nI p.1 - nI q.1) = m_way (nI p.1) (nI q.1)) ⟨p, hp⟩ ⟨q, hq⟩
/-- the replacements -/
theorem t_rep {c r : St} {n ni ns hs : Nat} (H : Rel c r n ni ns hs) : ∀ j, j ≤ n → Rel (c_rep c n j) (m_rep r n j) n ni ns hs ∧ c_repc c n j = m_repc r n j
  | 0, _ => ⟨H, rfl⟩
  | j + 1, hj => by
    obtain ⟨ih, ic⟩ := t_rep H j (by omega)
    obtain ⟨b1, b2, -⟩ := ih.1.1.2.1 j (by omega)
    have e29 : c_rep c n j 29 j = m_rep r n j 16 j := b2.2.2.2.2.2.1.2.2.1
    have e1 : c_rep c n j 1 j = m_rep r n j 1 j := b1.1.1
    have eu : c_und (c_rep c n j) n (c_rep c n j 1 j) = m_und (m_rep r n j) n (m_rep r n j 1 j) := by rw [e1]; exact und_eq ih.1.1
    by_cases z : c_rep c n j 29 j = 0 ∨ c_und (c_rep c n j) n (c_rep c n j 1 j) = 0
    · have z2 : m_rep r n j 16 j = 0 ∨ m_und (m_rep r n j) n (m_rep r n j 1 j) = 0 := by rw [← e29, ← eu]; exact z
      rw [c_rep_p z, m_rep_p z2, c_repc_p z, m_repc_p z2]
      exact ⟨ih, ic⟩
    · have z2 : ¬ (m_rep r n j 16 j = 0 ∨ m_und (m_rep r n j) n (m_rep r n j 1 j) = 0) := by rw [← e29, ← eu]; exact z
      rw [c_rep_n z, m_rep_n z2, c_repc_n z, m_repc_n z2, ← e1, ic]
      exact ⟨t_rep1 ih (Nat.pos_of_ne_zero (fun q => z (Or.inr q))), rfl⟩
/-- a new day -/
theorem t_day {c r : St} {n ni ns hs d : Nat} (H : Rel c r n ni ns hs) (hd : d < 99) : Rel (up c 0 2 (nI (d + 1))) (up r 0 5 (nI (d + 1))) n ni ns hs := by
  have hc : ∀ q, q ≠ 0 → up c 0 2 (nI (d + 1)) q = c q := fun q hq => up_row hq
  have hr : ∀ q, q ≠ 0 → up r 0 5 (nI (d + 1)) q = r q := fun q hq => up_row hq
  refine ⟨Rel0_g (fun q a _ _ => hc q a) (tk_c (hc 12 (by omega))) (fun q a _ => hr q a) (Nat.le_refl _) (fun hS => ?_) H.1, R_W_c (hc 5 (by omega)) (hc 8 (by omega)) (fun q a _ => hr q a) H.2⟩
  obtain ⟨h1, h2, h3, h4, h5, h6, h7⟩ := hS
  unfold R_S
  simp only [up_app]
  exact ⟨h1, h2, h3, h4, h5, ⟨d + 1, by omega, rfl, rfl⟩, h7⟩
/-- the rounds are cleared -/
theorem c_bd_at {c : St} : ∀ {m : Nat} (j : Nat), c_bd c m 27 j = (if j < m then -1 else c 27 j) ∧ c_bd c m 28 j = (if j < m then 0 else c 28 j) ∧ c_bd c m 29 j = (if j < m then 0 else c 29 j)
  | 0, j => by rw [if_neg (by omega), if_neg (by omega), if_neg (by omega)]; exact ⟨rfl, rfl, rfl⟩
  | m + 1, j => by
    obtain ⟨i1, i2, i3⟩ := c_bd_at (c := c) (m := m) j
    show up (up (up (c_bd c m) 27 m (-1)) 28 m 0) 29 m 0 27 j = _ ∧ up (up (up (c_bd c m) 27 m (-1)) 28 m 0) 29 m 0 28 j = _ ∧ up (up (up (c_bd c m) 27 m (-1)) 28 m 0) 29 m 0 29 j = _
    by_cases y : j = m
    · subst y
      rw [if_pos (by omega), if_pos (by omega), if_pos (by omega), up_row (by decide), up_row (by decide), up_at, up_row (by decide), up_at, up_at]
      exact ⟨rfl, rfl, rfl⟩
    · rw [up_ne y, up_ne y, up_ne y, up_ne y, up_ne y, up_ne y, up_ne y, up_ne y, up_ne y, i1, i2, i3]
      by_cases x : j < m
      · rw [if_pos x, if_pos x, if_pos x, if_pos (by omega), if_pos (by omega), if_pos (by omega)]; exact ⟨rfl, rfl, rfl⟩
      · rw [if_neg x, if_neg x, if_neg x, if_neg (by omega), if_neg (by omega), if_neg (by omega)]; exact ⟨rfl, rfl, rfl⟩
theorem m_rst_at {r : St} : ∀ {m : Nat} (j : Nat), m_rst r m 18 j = (if j < m then -1 else r 18 j) ∧ m_rst r m 17 j = (if j < m then 0 else r 17 j) ∧ m_rst r m 16 j = (if j < m then 0 else r 16 j)
  | 0, j => by rw [if_neg (by omega), if_neg (by omega), if_neg (by omega)]; exact ⟨rfl, rfl, rfl⟩
  | m + 1, j => by
    obtain ⟨i1, i2, i3⟩ := m_rst_at (r := r) (m := m) j
    show up (up (up (m_rst r m) 18 m (-1)) 17 m 0) 16 m 0 18 j = _ ∧ up (up (up (m_rst r m) 18 m (-1)) 17 m 0) 16 m 0 17 j = _ ∧ up (up (up (m_rst r m) 18 m (-1)) 17 m 0) 16 m 0 16 j = _
    by_cases y : j = m
    · subst y
      rw [if_pos (by omega), if_pos (by omega), if_pos (by omega), up_row (by decide), up_row (by decide), up_at, up_row (by decide), up_at, up_at]
      exact ⟨rfl, rfl, rfl⟩
    · rw [up_ne y, up_ne y, up_ne y, up_ne y, up_ne y, up_ne y, up_ne y, up_ne y, up_ne y, i1, i2, i3]
      by_cases x : j < m
      · rw [if_pos x, if_pos x, if_pos x, if_pos (by omega), if_pos (by omega), if_pos (by omega)]; exact ⟨rfl, rfl, rfl⟩
      · rw [if_neg x, if_neg x, if_neg x, if_neg (by omega), if_neg (by omega), if_neg (by omega)]; exact ⟨rfl, rfl, rfl⟩
/-! one walk -/
def WS (c r : St) (n i : Nat) : Prop := c 0 2 = r 0 5 ∧ (∀ j, j < n → (c 21 j = r 4 j ∧ (r 4 j = 119 → c 22 j = r 5 j)) ∧ c 2 j = r 3 j ∧ c 26 j = r 9 j ∧ c 20 j = r 2 j ∧ ∃ p, p < 100 ∧ r 2 j = nI p) ∧ (c 31 i = r 22 i ∧ c 32 i = r 23 i ∧ c 33 i = r 24 i ∧ ∃ p, p < 100 ∧ r 22 i = nI p)
def WH (c r : St) (n ni : Nat) : Prop := ∀ j, j < n → c 27 j = r 18 j ∧ (r 18 j = -1 ∨ (∃ v, v < ni ∧ r 18 j = nI v) ∧ r 4 j = 119)
def WI (c r : St) (i k : Nat) (a : Int32) : Prop := (c 35 i = a ∧ ∃ p, p < 100 ∧ a = nI p) ∧ c 36 i = r 21 i ∧ (c 34 i = nI k ∧ r 20 i = nI k) ∧ ∀ q, q < k → c 40 (4 * q + i) = r 19 (24 * i + q)
def WO (c r c' r' : St) (i : Nat) : Prop := ∀ v, v ≠ i → v < 4 → (c' 34 v = c 34 v ∧ c' 35 v = c 35 v ∧ c' 36 v = c 36 v ∧ ∀ q, c' 40 (4 * q + v) = c 40 (4 * q + v)) ∧ (r' 20 v = r 20 v ∧ r' 21 v = r 21 v ∧ ∀ q, q < 24 → r' 19 (24 * v + q) = r 19 (24 * v + q))
theorem WO.refl {c r : St} {i : Nat} : WO c r c r i := fun _ _ _ => ⟨⟨rfl, rfl, rfl, fun _ => rfl⟩, rfl, rfl, fun _ _ => rfl⟩
theorem WO.trans {c r c1 r1 c2 r2 : St} {i : Nat} (h1 : WO c r c1 r1 i) (h2 : WO c1 r1 c2 r2 i) : WO c r c2 r2 i := fun v hv hv4 => by
  obtain ⟨⟨a1, a2, a3, a4⟩, a5, a6, a7⟩ := h1 v hv hv4
  obtain ⟨⟨b1, b2, b3, b4⟩, b5, b6, b7⟩ := h2 v hv hv4
  exact ⟨⟨b1.trans a1, b2.trans a2, b3.trans a3, fun q => (b4 q).trans (a4 q)⟩, b5.trans a5, b6.trans a6, fun q hq => (b7 q hq).trans (a7 q hq)⟩
theorem nx_eq {c r : St} {n ni i k : Nat} {a : Int32} (hs : WS c r n i) (hh : WH c r n ni) (hi : WI c r i k a) : c_nx c i n = m_nx r i a n := by
  obtain ⟨s1, s2, s3, s4, s5, ph, hph, eh⟩ := hs
  obtain ⟨⟨w1, pa, hpa, ea⟩, w2, -, -⟩ := hi
  unfold c_nx m_nx
  refine nxt_cong (fun j hj => ?_) (fun j hj => ?_)
  · obtain ⟨⟨t1, t2⟩, t3, t4, t5, p, hp, ep⟩ := s2 j hj
    obtain ⟨u1, u2⟩ := hh j hj
    obtain ⟨x1, -⟩ := way_eq hp hpa
    obtain ⟨-, x2⟩ := way_eq hp hph
    unfold c_fit m_fit
    rw [t1, t3, t4, t5, u1, s1, s3, s4, s5, w1, w2, ep, ea, eh, x1, x2]
    by_cases z : r 4 j = 119
    · rw [t2 z]
      have hsp : (decide ((r 23 i >>> (r 3 j &&& 31)) &&& 1 = 1)) = decide (¬ (r 23 i >>> (r 3 j &&& 31)) &&& 1 = 0) := by
        rcases i32_a1 (r 23 i >>> (r 3 j &&& 31)) with q | q <;> rw [q] <;> decide
      have hmi : (decide (¬ r 24 i < r 21 i + m_way (nI pa) (nI p) + 30 + m_way (nI p) (nI ph))) = decide (r 21 i + m_way (nI pa) (nI p) + 30 + m_way (nI p) (nI ph) ≤ r 24 i) := by
        congr 1
        exact propext Int32.not_lt
      rw [hsp, hmi]
      simp only [decide_not]
      generalize decide (r 4 j = 119) = b1
      generalize decide (r 0 5 < r 5 j) = b2
      generalize decide (r 18 j = -1) = b3
      generalize decide ((r 9 j >>> (nI i &&& 31)) &&& 1 = 1) = b4
      generalize decide ((r 23 i >>> (r 3 j &&& 31)) &&& 1 = 0) = b5
      generalize decide (r 21 i + m_way (nI pa) (nI p) + 30 + m_way (nI p) (nI ph) ≤ r 24 i) = b6
      revert b1 b2 b3 b4 b5 b6
      decide
    · rw [decide_eq_false z]; rfl
  · obtain ⟨-, -, -, t5, p, hp, ep⟩ := s2 j hj
    unfold c_dist m_dist
    rw [t5, w1, ep, ea]
    exact (way_eq hp hpa).1
theorem ws_c {c : St} {i h k : Nat} : c_ws c i h k 34 i = nI (k + 1) ∧ c_ws c i h k 35 i = c 20 h ∧ c_ws c i h k 36 i = c 36 i + (c_abs (c 20 h - c 35 i) + 30) ∧ (∀ q, c_ws c i h k 40 q = if q = 4 * k + i then nI h else c 40 q) ∧ (∀ j, c_ws c i h k 27 j = if j = h then nI i else c 27 j) := by
  refine ⟨?_, ?_, ?_, fun q => ?_, fun j => ?_⟩ <;> simp [c_ws, up_app]
theorem ws_m {r : St} {i h k : Nat} {a : Int32} : m_ws r i a h k 20 i = nI (k + 1) ∧ m_ws r i a h k 21 i = r 21 i + (m_way a (r 2 h) + 30) ∧ (∀ q, m_ws r i a h k 19 q = if q = 24 * i + k then nI h else r 19 q) ∧ (∀ j, m_ws r i a h k 18 j = if j = h then nI i else r 18 j) := by
  refine ⟨?_, ?_, fun q => ?_, fun j => ?_⟩ <;> simp [m_ws, up_app]
theorem walk {n ni i : Nat} (hi : i < ni) (hi4 : ni ≤ 4) : ∀ (f k : Nat) (c r : St) (a : Int32), k + f ≤ 24 → WS c r n i → WH c r n ni → WI c r i k a →
    WH (c_wl n i f c k) (m_wl n i f r a k).1 n ni ∧ (∃ z, z < 25 ∧ WI (c_wl n i f c k) (m_wl n i f r a k).1 i z (m_wl n i f r a k).2) ∧ WO c r (c_wl n i f c k) (m_wl n i f r a k).1 i
  | 0, k, c, r, a, hk, _, hh, hw => ⟨hh, ⟨k, by omega, hw⟩, WO.refl⟩
  | f + 1, k, c, r, a, hk, hs, hh, hw => by
    have e := nx_eq hs hh hw
    cases z : m_nx r i a n with
    | none => rw [c_wl_n (e.trans z), m_wl_n z]; exact ⟨hh, ⟨k, by omega, hw⟩, WO.refl⟩
    | some h =>
      rw [c_wl_s (e.trans z), m_wl_s z]
      obtain ⟨hn, hfit⟩ := nxt_some z
      have h119 : r 4 h = 119 := by
        simp only [m_fit, Bool.and_eq_true, decide_eq_true_eq] at hfit
        exact hfit.1
      obtain ⟨s1, s2, s3⟩ := hs
      obtain ⟨⟨w1, pa, hpa, ea⟩, w2, ⟨w3, w4⟩, w5⟩ := hw
      obtain ⟨-, -, -, t5, p, hp, ep⟩ := s2 h hn
      obtain ⟨q1, q2, q3, q4, q5⟩ := ws_c (c := c) (i := i) (h := h) (k := k)
      obtain ⟨v1, v2, v3, v4⟩ := ws_m (r := r) (i := i) (h := h) (k := k) (a := a)
      have crow : ∀ q, q ≠ 27 → q ≠ 34 → q ≠ 35 → q ≠ 36 → q ≠ 40 → c_ws c i h k q = c q := fun q a b d e f => c_ws_row a b d e f
      have rrow : ∀ q, q ≠ 18 → q ≠ 19 → q ≠ 20 → q ≠ 21 → m_ws r i a h k q = r q := fun q a b d e => m_ws_row q a b d e
      have hs' : WS (c_ws c i h k) (m_ws r i a h k) n i := by
        unfold WS
        rw [crow 0 (by decide) (by decide) (by decide) (by decide) (by decide), crow 2 (by decide) (by decide) (by decide) (by decide) (by decide), crow 20 (by decide) (by decide) (by decide) (by decide) (by decide), crow 21 (by decide) (by decide) (by decide) (by decide) (by decide), crow 22 (by decide) (by decide) (by decide) (by decide) (by decide), crow 26 (by decide) (by decide) (by decide) (by decide) (by decide), crow 31 (by decide) (by decide) (by decide) (by decide) (by decide), crow 32 (by decide) (by decide) (by decide) (by decide) (by decide), crow 33 (by decide) (by decide) (by decide) (by decide) (by decide), rrow 0 (by decide) (by decide) (by decide) (by decide), rrow 2 (by decide) (by decide) (by decide) (by decide), rrow 3 (by decide) (by decide) (by decide) (by decide), rrow 4 (by decide) (by decide) (by decide) (by decide), rrow 5 (by decide) (by decide) (by decide) (by decide), rrow 9 (by decide) (by decide) (by decide) (by decide), rrow 22 (by decide) (by decide) (by decide) (by decide), rrow 23 (by decide) (by decide) (by decide) (by decide), rrow 24 (by decide) (by decide) (by decide) (by decide)]
        exact ⟨s1, s2, s3⟩
      have hh' : WH (c_ws c i h k) (m_ws r i a h k) n ni := fun j hj => by
        rw [q5, v4, rrow 4 (by decide) (by decide) (by decide) (by decide)]
        by_cases y : j = h
        · subst y
          rw [if_pos rfl, if_pos rfl]
          exact ⟨rfl, Or.inr ⟨⟨i, hi, rfl⟩, h119⟩⟩
        · rw [if_neg y, if_neg y]; exact hh j hj
      have hw' : WI (c_ws c i h k) (m_ws r i a h k) i (k + 1) (r 2 h) := by
        unfold WI
        rw [q1, q2, q3, v1, v2, t5, w1, w2, ep, ea]
        refine ⟨⟨rfl, p, hp, rfl⟩, by rw [(way_eq hp hpa).1], ⟨rfl, rfl⟩, fun q hq => ?_⟩
        rw [q4, ← ea, v3]
        by_cases y : q = k
        · subst y; rw [if_pos rfl, if_pos rfl]
        · rw [if_neg (by omega), if_neg (by omega)]; exact w5 q (by omega)
      have ho : WO c r (c_ws c i h k) (m_ws r i a h k) i := fun v hv hv4 => by
        refine ⟨⟨?_, ?_, ?_, fun q => ?_⟩, ?_, ?_, fun q hq => ?_⟩
        · simp [c_ws, up_app, hv]
        · simp [c_ws, up_app, hv]
        · simp [c_ws, up_app, hv]
        · rw [q4, if_neg (by omega)]
        · simp [m_ws, up_app, hv]
        · simp [m_ws, up_app, hv]
        · rw [v3, if_neg (by omega)]
      obtain ⟨r1, r2, r3⟩ := walk hi hi4 f (k + 1) (c_ws c i h k) (m_ws r i a h k) (r 2 h) (by omega) hs' hh' hw'
      exact ⟨r1, r2, ho.trans r3⟩
/-! all walks -/
def WD (c r : St) (v : Nat) : Prop := (c 34 v = r 20 v ∧ ∃ z, z < 25 ∧ r 20 v = nI z ∧ ∀ k, k < z → c 40 (4 * k + v) = r 19 (24 * v + k)) ∧ c 36 v + c_abs (c 35 v - c 31 v) = r 21 v
theorem b1_c {c : St} {i : Nat} : c_b1 c i 34 i = 0 ∧ c_b1 c i 35 i = c 31 i ∧ c_b1 c i 36 i = 0 := by
  refine ⟨?_, ?_, ?_⟩ <;> simp [c_b1, up_app]
theorem b1_m {r : St} {i : Nat} : m_r1 r i 20 i = 0 ∧ m_r1 r i 21 i = 0 := by
  refine ⟨?_, ?_⟩ <;> simp [m_r1, up_app]
theorem mis1 {c r : St} {n ni i : Nat} (hn : n ≤ 24) (hi : i < ni) (hi4 : ni ≤ 4) (hs : WS c r n i) (hh : WH c r n ni) (hB : c 9 i = r 25 i ∧ ∃ f, f < 3 ∧ r 25 i = nI f) : WH (c_mi c n i) (m_rd r n i) n ni ∧ WD (c_mi c n i) (m_rd r n i) i ∧ WO c r (c_mi c n i) (m_rd r n i) i := by
  obtain ⟨q1, q2, q3⟩ := b1_c (c := c) (i := i)
  obtain ⟨v1, v2⟩ := b1_m (r := r) (i := i)
  have crow : ∀ q, q ≠ 34 → q ≠ 35 → q ≠ 36 → c_b1 c i q = c q := fun q a b d => by unfold c_b1; rw [up_row d, up_row b, up_row a]
  have rrow : ∀ q, q ≠ 20 → q ≠ 21 → m_r1 r i q = r q := fun q a b => by unfold m_r1; rw [up_row b, up_row a]
  have hs' : WS (c_b1 c i) (m_r1 r i) n i := by
    unfold WS
    rw [crow 0 (by decide) (by decide) (by decide), crow 2 (by decide) (by decide) (by decide), crow 20 (by decide) (by decide) (by decide), crow 21 (by decide) (by decide) (by decide), crow 22 (by decide) (by decide) (by decide), crow 26 (by decide) (by decide) (by decide), crow 31 (by decide) (by decide) (by decide), crow 32 (by decide) (by decide) (by decide), crow 33 (by decide) (by decide) (by decide), rrow 0 (by decide) (by decide), rrow 2 (by decide) (by decide), rrow 3 (by decide) (by decide), rrow 4 (by decide) (by decide), rrow 5 (by decide) (by decide), rrow 9 (by decide) (by decide), rrow 22 (by decide) (by decide), rrow 23 (by decide) (by decide), rrow 24 (by decide) (by decide)]
    exact hs
  have hh' : WH (c_b1 c i) (m_r1 r i) n ni := by
    unfold WH
    rw [crow 27 (by decide) (by decide) (by decide), rrow 18 (by decide) (by decide), rrow 4 (by decide) (by decide)]
    exact hh
  have hph := hs.2.2.2.2.2
  have hw' : WI (c_b1 c i) (m_r1 r i) i 0 (r 22 i) := by
    unfold WI
    rw [q1, q2, q3, v1, v2]
    exact ⟨⟨hs.2.2.1, hph⟩, rfl, ⟨rfl, rfl⟩, fun q hq => absurd hq (Nat.not_lt_zero _)⟩
  have ho : WO c r (c_b1 c i) (m_r1 r i) i := fun v hv hv4 => by
    refine ⟨⟨?_, ?_, ?_, fun q => ?_⟩, ?_, ?_, fun q hq => ?_⟩
    · simp [c_b1, up_app, hv]
    · simp [c_b1, up_app, hv]
    · simp [c_b1, up_app, hv]
    · rw [crow 40 (by decide) (by decide) (by decide)]
    · simp [m_r1, up_app, hv]
    · simp [m_r1, up_app, hv]
    · rw [rrow 19 (by decide) (by decide)]
  have key : ∃ (c' : St) (p : St × Int32), c' = c_mi c n i ∧ p = m_rq r n i ∧ WH c' p.1 n ni ∧ (∃ z, z < 25 ∧ WI c' p.1 i z p.2) ∧ WO c r c' p.1 i := by
    obtain ⟨e9, f, hf, ef⟩ := hB
    refine ⟨_, _, rfl, rfl, ?_⟩
    unfold c_mi m_rq
    by_cases z : f < 2
    · rw [if_pos (by rw [e9, ef]; exact (nI_ltI (a := f) (b := 2) (by omega) (by omega)).mpr z), if_neg (by rw [ef]; exact fun q => by have := (nI_eq (a := f) (b := 2) (by omega) (by omega)).mp q; omega)]
      obtain ⟨r1, r2, r3⟩ := walk hi hi4 n 0 _ _ _ (by omega) hs' hh' hw'
      exact ⟨r1, r2, ho.trans r3⟩
    · have : f = 2 := by omega
      subst this
      rw [if_neg (by rw [e9, ef]; decide), if_pos (by rw [ef]; rfl)]
      exact ⟨hh', ⟨0, by omega, hw'⟩, ho⟩
  obtain ⟨c', p, ec, ep, k1, ⟨z, hz, ⟨⟨w1, pa, hpa, ea⟩, w2, ⟨w3, w4⟩, w5⟩⟩, k3⟩ := key
  unfold m_rd
  rw [← ec, ← ep]
  have c31 : c' 31 = c 31 := by rw [ec]; exact c_mi_row (by decide) (by decide) (by decide) (by decide) (by decide)
  obtain ⟨ph, hph1, hph2⟩ := hph
  refine ⟨?_, ?_, fun v hv hv4 => ?_⟩
  · unfold WH
    rw [up_row (by decide), up_row (by decide)]
    exact k1
  · unfold WD
    rw [up_row (by decide), up_row (by decide), up_at, w3, w4, w1, w2, c31, hs.2.2.1, hph2, ea, (way_eq hpa hph1).2]
    exact ⟨⟨rfl, z, hz, rfl, w5⟩, rfl⟩
  · obtain ⟨a1, a2, a3, a4⟩ := k3 v hv hv4
    rw [up_row (k' := 20) (by decide), up_off hv, up_row (k' := 19) (by decide)]
    exact ⟨a1, a2, a3, a4⟩
theorem mis {c r : St} {n ni : Nat} (hn : n ≤ 24) (hi4 : ni ≤ 4) (hs : ∀ i, i < ni → WS c r n i) (hh : WH c r n ni) (hB : R_B c r) : ∀ i, i ≤ ni → WH (c_mis c n i) (m_rds r n i) n ni ∧ (∀ v, v < i → WD (c_mis c n i) (m_rds r n i) v) ∧ ∀ v, i ≤ v → v < 4 → m_rds r n i 20 v = r 20 v ∧ m_rds r n i 21 v = r 21 v
  | 0, _ => ⟨hh, fun v hv => absurd hv (Nat.not_lt_zero _), fun _ _ _ => ⟨rfl, rfl⟩⟩
  | i + 1, hi => by
    obtain ⟨i1, i2, i3⟩ := mis hn hi4 hs hh hB i (by omega)
    have crow : ∀ q, q ≠ 27 → q ≠ 34 → q ≠ 35 → q ≠ 36 → q ≠ 40 → c_mis c n i q = c q := fun q a b d e f => c_mis_row a b d e f i
    have rrow : ∀ q, q ≠ 18 → q ≠ 19 → q ≠ 20 → q ≠ 21 → m_rds r n i q = r q := fun q a b d e => m_rds_row a b d e i
    have hs' : WS (c_mis c n i) (m_rds r n i) n i := by
      unfold WS
      rw [crow 0 (by decide) (by decide) (by decide) (by decide) (by decide), crow 2 (by decide) (by decide) (by decide) (by decide) (by decide), crow 20 (by decide) (by decide) (by decide) (by decide) (by decide), crow 21 (by decide) (by decide) (by decide) (by decide) (by decide), crow 22 (by decide) (by decide) (by decide) (by decide) (by decide), crow 26 (by decide) (by decide) (by decide) (by decide) (by decide), crow 31 (by decide) (by decide) (by decide) (by decide) (by decide), crow 32 (by decide) (by decide) (by decide) (by decide) (by decide), crow 33 (by decide) (by decide) (by decide) (by decide) (by decide), rrow 0 (by decide) (by decide) (by decide) (by decide), rrow 2 (by decide) (by decide) (by decide) (by decide), rrow 3 (by decide) (by decide) (by decide) (by decide), rrow 4 (by decide) (by decide) (by decide) (by decide), rrow 5 (by decide) (by decide) (by decide) (by decide), rrow 9 (by decide) (by decide) (by decide) (by decide), rrow 22 (by decide) (by decide) (by decide) (by decide), rrow 23 (by decide) (by decide) (by decide) (by decide), rrow 24 (by decide) (by decide) (by decide) (by decide)]
      exact hs i (by omega)
    have hB' : c_mis c n i 9 i = m_rds r n i 25 i ∧ ∃ f, f < 3 ∧ m_rds r n i 25 i = nI f := by
      rw [crow 9 (by decide) (by decide) (by decide) (by decide) (by decide), rrow 25 (by decide) (by decide) (by decide) (by decide)]
      exact hB i (by omega)
    obtain ⟨k1, k2, k3⟩ := mis1 hn (by omega) hi4 hs' i1 hB'
    refine ⟨k1, fun v hv => ?_, fun v hv hv4 => ?_⟩
    · by_cases y : v = i
      · subst y; exact k2
      · obtain ⟨⟨a1, a2, a3, a4⟩, a5, a6, a7⟩ := k3 v y (by omega)
        obtain ⟨⟨b1, z, hz, b2, b3⟩, b4⟩ := i2 v (by omega)
        show WD (c_mi (c_mis c n i) n i) (m_rd (m_rds r n i) n i) v
        unfold WD
        rw [a1, a2, a3, a5, a6, c_mi_row (q := 31) (by decide) (by decide) (by decide) (by decide) (by decide)]
        exact ⟨⟨b1, z, hz, b2, fun k hk => by rw [a4, a7 k (by omega)]; exact b3 k hk⟩, b4⟩
    · obtain ⟨-, a5, a6, -⟩ := k3 v (by omega) hv4
      obtain ⟨b5, b6⟩ := i3 v (by omega) hv4
      exact ⟨a5.trans b5, a6.trans b6⟩
theorem t_rounds {c r : St} {n ni ns hs : Nat} (H : Rel c r n ni ns hs) : Rel (c_rounds c n ni) (m_rounds r n ni) n ni ns hs := by
  obtain ⟨⟨⟨h1, h2, h3, h4, h5, h6, E, h8⟩, h9⟩, h10⟩ := H
  have hn := h1.1.1
  have hi4 := h1.1.2.1
  have bc : ∀ q, q ≠ 27 → q ≠ 28 → q ≠ 29 → c_bd c n q = c q := fun q a b d => c_bd_row n q a b d
  have br : ∀ q, q ≠ 16 → q ≠ 17 → q ≠ 18 → m_rst r n q = r q := fun q a b d => m_rst_row n q a b d
  obtain ⟨dd, hdd, y1, y2⟩ := h1.2.2.2.2.2.1
  have hws : ∀ i, i < ni → WS (c_bd c n) (m_rst r n) n i := fun i hi => by
    unfold WS
    rw [bc 0 (by decide) (by decide) (by decide), bc 2 (by decide) (by decide) (by decide), bc 20 (by decide) (by decide) (by decide), bc 21 (by decide) (by decide) (by decide), bc 22 (by decide) (by decide) (by decide), bc 26 (by decide) (by decide) (by decide), bc 31 (by decide) (by decide) (by decide), bc 32 (by decide) (by decide) (by decide), bc 33 (by decide) (by decide) (by decide), br 0 (by decide) (by decide) (by decide), br 2 (by decide) (by decide) (by decide), br 3 (by decide) (by decide) (by decide), br 4 (by decide) (by decide) (by decide), br 5 (by decide) (by decide) (by decide), br 9 (by decide) (by decide) (by decide), br 22 (by decide) (by decide) (by decide), br 23 (by decide) (by decide) (by decide), br 24 (by decide) (by decide) (by decide)]
    refine ⟨y1.trans y2.symm, fun j hj => ?_, (h5 i hi).1⟩
    obtain ⟨b1, b2, -⟩ := h2 j hj
    exact ⟨⟨b2.1.1, b2.2.1⟩, b1.1.2.1, b2.2.2.2.1.2.2, b1.1.2.2, b1.2.2.2⟩
  have hwh : WH (c_bd c n) (m_rst r n) n ni := fun j hj => by
    rw [(c_bd_at j).1, (m_rst_at j).1, if_pos hj, if_pos hj]
    exact ⟨rfl, Or.inl rfl⟩
  have hB : R_B (c_bd c n) (m_rst r n) := by
    unfold R_B
    rw [bc 9 (by decide) (by decide) (by decide), br 25 (by decide) (by decide) (by decide)]
    exact h4
  obtain ⟨k1, k2, k3⟩ := mis hn hi4 hws hwh hB ni (Nat.le_refl _)
  have e0 : c_rounds c n ni = c_mis (c_bd c n) n ni := rfl
  have e1 : m_rounds r n ni = m_rds (m_rst r n) n ni := rfl
  have hc : ∀ q, q < 27 ∨ (29 < q ∧ q < 34) → c_rounds c n ni q = c q := fun q a => by
    rw [e0, c_mis_row (by omega) (by omega) (by omega) (by omega) (by omega), bc q (by omega) (by omega) (by omega)]
  have hr : ∀ q, q < 16 ∨ 21 < q → m_rounds r n ni q = r q := fun q a => by
    rw [e1, m_rds_row (by omega) (by omega) (by omega) (by omega), br q (by omega) (by omega) (by omega)]
  have c28 : ∀ j, j < n → c_rounds c n ni 28 j = 0 := fun j hj => by
    rw [e0, c_mis_row (by omega) (by omega) (by omega) (by omega) (by omega), (c_bd_at j).2.1, if_pos hj]
  have c29 : ∀ j, j < n → c_rounds c n ni 29 j = 0 := fun j hj => by
    rw [e0, c_mis_row (by omega) (by omega) (by omega) (by omega) (by omega), (c_bd_at j).2.2, if_pos hj]
  have r17 : ∀ j, m_rounds r n ni 17 j = if j < n then 0 else r 17 j := fun j => by
    rw [e1, m_rds_row (by omega) (by omega) (by omega) (by omega), (m_rst_at j).2.1]
  have r16 : ∀ j, m_rounds r n ni 16 j = if j < n then 0 else r 16 j := fun j => by
    rw [e1, m_rds_row (by omega) (by omega) (by omega) (by omega), (m_rst_at j).2.2]
  have ew : n_wr (m_rounds r n ni) n ns = n_wr r n ns := by
    unfold n_wr
    rw [hr 1 (by omega), hr 3 (by omega), hr 4 (by omega), hr 14 (by omega)]
  refine ⟨⟨⟨R_S_c (hc 0 (by omega)) (fun i _ => by rw [hr 0 (by omega)]) h1, fun j hj => ⟨R_H_c (fun q _ => by rw [hc q (by omega)]) (fun q _ => by rw [hr q (by omega)]) (Nat.le_refl _) (h2 j hj).1, ?_, R_A_c (fun q _ _ => by rw [hc q (by omega)]) (fun q _ => by rw [hr q (by omega)]) (hr 25 (by omega)) (Nat.le_refl _) (h2 j hj).2.2⟩, fun j a b => ?_, R_B_c (hc 9 (by omega)) (hr 25 (by omega)) h4, fun i hi => ?_, fun i a b => ?_, E, R_E_c (hc 15 (by omega)) (fun j _ => by rw [hc 5 (by omega)]) (hc 6 (by omega)) (hc 7 (by omega)) (hc 9 (by omega)) (tk_c (hc 12 (by omega)) h8.2.1) h8⟩, R_T_c (hc 3 (by omega)) (hc 4 (by omega)) (fun k => by rw [hr 1 (by omega), hr 4 (by omega), hr 14 (by omega)]) (fun k => by rw [hr 3 (by omega), hr 4 (by omega), hr 14 (by omega)]) h9⟩, ?_⟩
  · obtain ⟨d1, d2, d3, d4, d5, d6, d7, d8, d9⟩ := (h2 j hj).2.1
    obtain ⟨w1, w2⟩ := k1 j hj
    rw [← e0, ← e1] at w1
    rw [← e1, hr 4 (by omega)] at w2
    unfold R_D
    rw [w1, c28 j hj, c29 j hj, r17, r16, if_pos hj, if_pos hj, hc 21 (by omega), hc 22 (by omega), hc 23 (by omega), hc 24 (by omega), hc 25 (by omega), hc 26 (by omega), hc 30 (by omega), hr 4 (by omega), hr 5 (by omega), hr 6 (by omega), hr 7 (by omega), hr 8 (by omega), hr 9 (by omega), hr 12 (by omega), hr 15 (by omega)]
    exact ⟨d1, d2, d3, d4, d5, ⟨rfl, rfl, rfl, d6.2.2.2⟩, w2.imp id (fun q => q.1), fun q _ => (w2.resolve_left q).2, fun _ => rfl⟩
  · obtain ⟨a0, a1, a2, a3, a4, a5, a6, a7⟩ := h3 j a b
    unfold R_F
    rw [hc 5 (by omega), hr 6 (by omega), hr 7 (by omega), hr 8 (by omega), hr 9 (by omega), hr 15 (by omega), r16, r17, if_neg (by omega), if_neg (by omega)]
    exact ⟨a0, a1, a2, a3, a4, a5, a6, a7⟩
  · obtain ⟨w1, w2⟩ := k2 i hi
    rw [← e0, ← e1] at w1 w2
    refine ⟨?_, w1, w2⟩
    rw [hc 31 (by omega), hc 32 (by omega), hc 33 (by omega), hr 22 (by omega), hr 23 (by omega), hr 24 (by omega)]
    exact (h5 i hi).1
  · obtain ⟨w1, w2⟩ := k3 i a b
    rw [← e1, br 20 (by decide) (by decide) (by decide)] at w1
    rw [← e1, br 21 (by decide) (by decide) (by decide)] at w2
    rw [w1, w2]
    exact h6 i a b
  · unfold R_W
    rw [ew, hr 4 (by omega), hc 5 (by omega), hc 8 (by omega)]
    exact h10
theorem t_endDay {c r : St} {n ni ns hs d : Nat} (H : Rel c r n ni ns hs) (hd : d < 99) (e : r 0 5 = nI d) : Rel (c_rounds (up (c_rep c n n) 0 2 (nI (d + 1))) n ni) (m_endDay r n ni) n ni ns hs ∧ c_repc c n n = m_repc (up r 0 0 0) n n := by
  obtain ⟨h1, h2⟩ := t_rep (Rel_t (x := 0) H) n (Nat.le_refl _)
  refine ⟨?_, h2⟩
  have := t_rounds (t_day h1 hd)
  unfold m_endDay
  rw [e, nI_1]
  exact this
