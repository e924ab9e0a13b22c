/-! the start -/
theorem fs_z_at {f : Nat → Int32} : ∀ {n j : Nat}, j < n → fs_z f n j = 0
  | 0, _, h => absurd h (Nat.not_lt_zero _)
  | n + 1, j, h => by
    show upd (fs_z f n) n 0 j = 0
    by_cases e : j = n
    · subst e; exact upd_at
    · rw [upd_off e]; exact fs_z_at (by omega)
theorem c00_0 {q i : Nat} (h : q ≠ 0) : c00 q i = 0 := by
  cases q with
  | zero => exact absurd rfl h
  | succ q => rfl
theorem rel_00 : Rel c00 c00 0 0 0 0 := by
  refine ⟨⟨⟨⟨⟨by omega, by omega, by omega, by omega⟩, ⟨rfl, rfl⟩, ⟨rfl, rfl⟩, ⟨rfl, rfl⟩, ⟨rfl, 1, by omega, rfl⟩, ⟨0, by omega, rfl, rfl⟩, rfl⟩, fun j hj => absurd hj (Nat.not_lt_zero _), fun j _ _ => ⟨rfl, rfl, rfl, rfl, rfl, rfl, rfl, rfl⟩, fun i _ => ⟨rfl, 0, by omega, rfl⟩, fun i hi => absurd hi (Nat.not_lt_zero _), fun i _ _ => ⟨rfl, rfl⟩, fun _ => (97, 0, 0, 0), ⟨fun k hk => absurd hk (Nat.not_lt_zero _), fun j _ => ⟨0, by omega, rfl⟩, fun d _ => ⟨fun j hj => ?_, fun i hi => ?_⟩⟩⟩, ⟨fun k _ => rfl, fun k _ => rfl⟩⟩, ⟨fun j hj => absurd hj (Nat.not_lt_zero _), fun j _ _ => rfl⟩⟩
  · show (upr (upr d 10 (fs_z (d 10) 24)) 14 (fs_z (d 14) 4) 10 j = 0 ↔ (0 : Int32) = 0) ∧ _
    rw [upr_row (by decide), upr_at, fs_z_at hj]
    exact ⟨Iff.rfl, fun q => absurd rfl q⟩
  · show upr (upr d 10 (fs_z (d 10) 24)) 14 (fs_z (d 14) 4) 14 i = 0
    rw [upr_at, fs_z_at hi]
