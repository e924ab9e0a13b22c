theorem m_rep_p {r : St} {n j : Nat} (h : m_rep r n j 16 j = 0 ∨ m_und (m_rep r n j) n (m_rep r n j 1 j) = 0) : m_rep r n (j + 1) = m_rep r n j := by
  conv => lhs; unfold m_rep
  rw [if_pos h]
theorem m_rep_n {r : St} {n j : Nat} (h : ¬ (m_rep r n j 16 j = 0 ∨ m_und (m_rep r n j) n (m_rep r n j 1 j) = 0)) : m_rep r n (j + 1) = m_d1 (m_rep r n j) n (m_rep r n j 1 j) 1 := by
  conv => lhs; unfold m_rep
  rw [if_neg h]
theorem m_repc_p {r : St} {n j : Nat} (h : m_rep r n j 16 j = 0 ∨ m_und (m_rep r n j) n (m_rep r n j 1 j) = 0) : m_repc r n (j + 1) = m_repc r n j := by
  conv => lhs; unfold m_repc
  rw [if_pos h]
theorem m_repc_n {r : St} {n j : Nat} (h : ¬ (m_rep r n j 16 j = 0 ∨ m_und (m_rep r n j) n (m_rep r n j 1 j) = 0)) : m_repc r n (j + 1) = m_repc r n j + 1 := by
  conv => lhs; unfold m_repc
  rw [if_neg h]
theorem m_h_lt {r : St} {n : Nat} {s : Int32} (hc : ∃ k, k < 65536 ∧ r 0 1 = nI k) (hn : n ≤ 24) (hu : 0 < m_und r n s) : m_h r n s < n := by
  have hu2 := ct_le (isU (r 1) (r 4) s) n
  obtain ⟨h1, -⟩ := m_q_ok (u := m_und r n s) hc hu (by unfold m_und; omega)
  exact (sel_ok (isU (r 1) (r 4) s) _ n h1).1
/-! a whole row -/
def upr (c : St) (k : Nat) (f : Nat → Int32) : St := fun k' => if k' = k then f else c k'
theorem upr_at {c : St} {k : Nat} {f : Nat → Int32} : upr c k f k = f := by simp [upr]
theorem upr_row {c : St} {k k' : Nat} {f : Nat → Int32} (h : k' ≠ k) : upr c k f k' = c k' := by simp [upr, h]
theorem up_upr {c : St} {k i : Nat} {f : Nat → Int32} {v : Int32} : up (upr c k f) k i v = upr c k (upd f i v) := by
  funext k'
  by_cases h : k' = k
  · subst h; simp [up, upr]
  · simp [up, upr, h]
theorem upr_upr {c : St} {k : Nat} {f g : Nat → Int32} : upr (upr c k f) k g = upr c k g := by
  funext k'
  by_cases h : k' = k <;> simp [upr, h]
theorem upr_self {c : St} {k : Nat} : upr c k (c k) = c := by
  funext k'
  by_cases h : k' = k
  · subst h; simp [upr]
  · simp [upr, h]
/-! fitting the weights of one group -/
def fs_mem (stt g : Nat → Int32) (k : Int32) : Nat → Bool := fun j => decide (stt j = 97) && decide (g j = k)
def fs_sum (mem : Nat → Bool) (w : Nat → Int32) : Nat → Int32
  | 0 => 0
  | j + 1 => fs_sum mem w j + (if mem j = true then w j else 0)
def fs_nw (sum goal : Int32) (many : Nat) (w : Int32) : Int32 := if sum = 0 then goal / nI many else w * goal / sum
def fs_w1 (mem : Nat → Bool) (w : Nat → Int32) (nw : Int32 → Int32) : Nat → (Nat → Int32)
  | 0 => w
  | j + 1 => if mem j = true then upd (fs_w1 mem w nw j) j (nw (w j)) else fs_w1 mem w nw j
theorem fs_w1_t {mem : Nat → Bool} {w : Nat → Int32} {nw : Int32 → Int32} {j : Nat} (h : mem j = true) : fs_w1 mem w nw (j + 1) = upd (fs_w1 mem w nw j) j (nw (w j)) := by
  conv => lhs; unfold fs_w1
  rw [if_pos h]
theorem fs_w1_f {mem : Nat → Bool} {w : Nat → Int32} {nw : Int32 → Int32} {j : Nat} (h : mem j = false) : fs_w1 mem w nw (j + 1) = fs_w1 mem w nw j := by
  conv => lhs; unfold fs_w1
  rw [h]; rfl
theorem fs_w1_ge {mem : Nat → Bool} {w : Nat → Int32} {nw : Int32 → Int32} : ∀ {j i : Nat}, j ≤ i → fs_w1 mem w nw j i = w i
  | 0, _, _ => rfl
  | j + 1, i, h => by
    have ih := fs_w1_ge (mem := mem) (w := w) (nw := nw) (j := j) (i := i) (by omega)
    cases hm : mem j with
    | true =>
      rw [fs_w1_t hm]
      show (if i = j then _ else _) = _
      rw [if_neg (by omega)]
      exact ih
    | false => rw [fs_w1_f hm]; exact ih
def fs_ms (mem : Nat → Bool) (w : Nat → Int32) (nw : Int32 → Int32) (goal : Int32) : Nat → Int32
  | 0 => goal
  | j + 1 => if mem j = true then fs_ms mem w nw goal j - nw (w j) else fs_ms mem w nw goal j
theorem fs_ms_t {mem : Nat → Bool} {w : Nat → Int32} {nw : Int32 → Int32} {g : Int32} {j : Nat} (h : mem j = true) : fs_ms mem w nw g (j + 1) = fs_ms mem w nw g j - nw (w j) := by
  conv => lhs; unfold fs_ms
  rw [if_pos h]
theorem fs_ms_f {mem : Nat → Bool} {w : Nat → Int32} {nw : Int32 → Int32} {g : Int32} {j : Nat} (h : mem j = false) : fs_ms mem w nw g (j + 1) = fs_ms mem w nw g j := by
  conv => lhs; unfold fs_ms
  rw [h]; rfl
def fs_w2 (mem : Nat → Bool) (w : Nat → Int32) (m : Int32) : Nat → (Nat → Int32) × Int32
  | 0 => (w, m)
  | j + 1 => if mem j = true ∧ 0 < (fs_w2 mem w m j).2 then (upd (fs_w2 mem w m j).1 j ((fs_w2 mem w m j).1 j + 1), (fs_w2 mem w m j).2 + (-1)) else fs_w2 mem w m j
theorem fs_w2_t {mem : Nat → Bool} {w : Nat → Int32} {m : Int32} {j : Nat} (h : mem j = true) (h2 : 0 < (fs_w2 mem w m j).2) : fs_w2 mem w m (j + 1) = (upd (fs_w2 mem w m j).1 j ((fs_w2 mem w m j).1 j + 1), (fs_w2 mem w m j).2 + (-1)) := by
  conv => lhs; unfold fs_w2
  rw [if_pos ⟨h, h2⟩]
theorem fs_w2_f {mem : Nat → Bool} {w : Nat → Int32} {m : Int32} {j : Nat} (h : mem j = false) : fs_w2 mem w m (j + 1) = fs_w2 mem w m j := by
  conv => lhs; unfold fs_w2
  rw [if_neg (by rw [h]; rintro ⟨q, -⟩; cases q)]
theorem fs_w2_stop {mem : Nat → Bool} {w : Nat → Int32} {m : Int32} {j : Nat} (h : ¬ 0 < (fs_w2 mem w m j).2) : ∀ d, fs_w2 mem w m (j + d) = fs_w2 mem w m j
  | 0 => rfl
  | d + 1 => by
    have ih := fs_w2_stop h d
    show fs_w2 mem w m ((j + d) + 1) = _
    conv => lhs; unfold fs_w2
    rw [ih, if_neg (fun q => h q.2)]
theorem fs_w2_end {mem : Nat → Bool} {w : Nat → Int32} {m : Int32} {j n : Nat} (h : ¬ 0 < (fs_w2 mem w m j).2) (hj : j ≤ n) : fs_w2 mem w m n = fs_w2 mem w m j := by
  obtain ⟨d, rfl⟩ := Nat.exists_eq_add_of_le hj
  exact fs_w2_stop h d
def fs_fit (mem : Nat → Bool) (w : Nat → Int32) (goal : Int32) (n : Nat) : Nat → Int32 :=
  if ct mem n = 0 then w else
    (fs_w2 mem (fs_w1 mem w (fs_nw (fs_sum mem w n) goal (ct mem n)) n) (fs_ms mem w (fs_nw (fs_sum mem w n) goal (ct mem n)) goal n) n).1
def fs_w0 (w : Nat → Int32) : Nat → (Nat → Int32)
  | 0 => w
  | j + 1 => upd (fs_w0 w j) j 1000
/-! the model's weights -/
def m_fits (r : St) (g : Nat) (k : Int32) (n : Nat) : St := upr r 13 (fs_fit (fs_mem (r 4) (r g) k) (r 13) (m_gl (r g) (r 4) (r 14) k n) n)
theorem m_fits_0 {r : St} {g n : Nat} {k : Int32} (h : ct (fs_mem (r 4) (r g) k) n = 0) : m_fits r g k n = r := by
  unfold m_fits fs_fit
  rw [if_pos h, upr_self]
def m_fitw (r : St) (g n : Nat) (k : Int32) (w : Nat → Int32) : Nat → Int32 := fs_fit (fs_mem (r 4) (r g) k) w (m_gl (r g) (r 4) (r 14) k n) n
theorem m_fits_w1 {r : St} {n : Nat} {k : Int32} {w : Nat → Int32} : m_fits (upr r 13 w) 1 k n = upr r 13 (m_fitw r 1 n k w) := by
  unfold m_fits m_fitw
  rw [upr_upr, upr_at, upr_row (by decide), upr_row (by decide), upr_row (by decide)]
theorem m_fits_w3 {r : St} {n : Nat} {k : Int32} {w : Nat → Int32} : m_fits (upr r 13 w) 3 k n = upr r 13 (m_fitw r 3 n k w) := by
  unfold m_fits m_fitw
  rw [upr_upr, upr_at, upr_row (by decide), upr_row (by decide), upr_row (by decide)]
def m_wk (r : St) (n g : Nat) (w : Nat → Int32) : Nat → (Nat → Int32)
  | 0 => w
  | k + 1 => m_fitw r g n (nI k) (m_wk r n g w k)
def m_wt (r : St) (n ns : Nat) : Nat → (Nat → Int32)
  | 0 => fs_w0 (r 13) n
  | t + 1 => if t % 2 = 0 then m_wk r n 1 (m_wt r n ns t) ns else m_wk r n 3 (m_wt r n ns t) 3
theorem m_wt_0 {r : St} {n ns t : Nat} (h : t % 2 = 0) : m_wt r n ns (t + 1) = m_wk r n 1 (m_wt r n ns t) ns := by
  conv => lhs; unfold m_wt
  rw [if_pos h]
theorem m_wt_1 {r : St} {n ns t : Nat} (h : ¬ t % 2 = 0) : m_wt r n ns (t + 1) = m_wk r n 3 (m_wt r n ns t) 3 := by
  conv => lhs; unfold m_wt
  rw [if_neg h]
def m_weigh (r : St) (n ns : Nat) : St := upr r 13 (m_wt r n ns 7)
/-- the sum of answers times weights -/
def m_ws64 (stt ans w : Nat → Int32) : Nat → Int64
  | 0 => 0
  | j + 1 => m_ws64 stt ans w j + (if stt j = 97 then (ans j * w j).toInt64 else 0)
theorem i32_m1 : Int32.ofInt (-1) = -1 := by decide
theorem i64_add0 (x : Int64) : x + 0 = x := by simp
section GE2
variable {p : Program} {l : Launch} {e : Env} {R : Room} {s : State} {m : MethodId} {args : Array Value} {below : List Frame} {meth : Method} {c : Code} {H : Heap} {locs : List Loc} {cells slots : Nat} {cc : ByteArray} {pc nL : Nat} {ls : Array Slot} {dg : va_G} {A : Nat → Prop} {ws ws1 : va_W} {own : String}
theorem eMd (S : CallFix p m c cc nL s args gW own) (hr : meth.sig.returnType = some .double) (hlk : meth.locks = false) (hP : PP dg ws H) (hD : va_D A ws) (hS : va_S A s.heap H locs) (hdg : decode cc pc = .ok (.dreturn, 1)) {v x : UInt64} (hv : x = v) (hw : ws = ws1) : W p l e R s m args below meth c H locs cells slots (MQ below (QcM dg ws1 (some (.double v)) A) args s cells slots A) (F0 m pc ls [.double x]) := by
  subst hv hw
  exact W.dret S.1 S.2.1 hr (fun t ht _ => ⟨⟨rfl, by rw [ht]; exact hP, hD⟩, hS.F ht⟩) hS.2.2 hdg hlk
theorem eMf (S : CallFix p m c cc nL s args gW own) (hr : meth.sig.returnType = some .float) (hlk : meth.locks = false) (hP : PP dg ws H) (hD : va_D A ws) (hS : va_S A s.heap H locs) (hdg : decode cc pc = .ok (.freturn, 1)) {v x : UInt32} (hv : x = v) (hw : ws = ws1) : W p l e R s m args below meth c H locs cells slots (MQ below (QcM dg ws1 (some (.float v)) A) args s cells slots A) (F0 m pc ls [.float x]) := by
  subst hv hw
  exact W.fret S.1 S.2.1 hr (fun t ht _ => ⟨⟨rfl, by rw [ht]; exact hP, hD⟩, hS.F ht⟩) hS.2.2 hdg hlk
end GE2
theorem fs_mem_t {stt g : Nat → Int32} {k : Int32} {j : Nat} (h1 : stt j = 97) (h2 : g j = k) : fs_mem stt g k j = true := by simp [fs_mem, h1, h2]
theorem fs_mem_f1 {stt g : Nat → Int32} {k : Int32} {j : Nat} (h1 : ¬ stt j = 97) : fs_mem stt g k j = false := by simp [fs_mem, h1]
theorem fs_mem_f2 {stt g : Nat → Int32} {k : Int32} {j : Nat} (h2 : ¬ g j = k) : fs_mem stt g k j = false := by simp [fs_mem, h2]
theorem fs_sum_t {mem : Nat → Bool} {w : Nat → Int32} {j : Nat} (h : mem j = true) : fs_sum mem w (j + 1) = fs_sum mem w j + w j := by
  conv => lhs; unfold fs_sum
  rw [if_pos h]
theorem fs_sum_f {mem : Nat → Bool} {w : Nat → Int32} {j : Nat} (h : mem j = false) : fs_sum mem w (j + 1) = fs_sum mem w j := by
  conv => lhs; unfold fs_sum
  rw [h]
  exact i32_add0 _
theorem m_ws64_t {stt ans w : Nat → Int32} {j : Nat} (h : stt j = 97) : m_ws64 stt ans w (j + 1) = m_ws64 stt ans w j + (ans j * w j).toInt64 := by
  conv => lhs; unfold m_ws64
  rw [if_pos h]
theorem m_ws64_f {stt ans w : Nat → Int32} {j : Nat} (h : ¬ stt j = 97) : m_ws64 stt ans w (j + 1) = m_ws64 stt ans w j + 0 := by
  conv => lhs; unfold m_ws64
  rw [if_neg h]
