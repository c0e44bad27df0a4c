/-! ===== pure side: a flock is copied ===== -/
theorem cpy_at {s d : Nat → Int32} {n k : Nat} (h : k < n) : va_cpy s d 0 0 n k = s k := by
  unfold va_cpy
  rw [if_pos (by omega)]
  congr 1
  omega
theorem copyFrom_eq {f o : Mem} {A : Fk} (h : enc o A) (hk : okF A) : ∃ f', p_X0_copyFrom f o = some f' ∧ enc f' A := by
  have h3 := hk.1.1
  have h6 := hk.1.2
  obtain ⟨h1, h2, h4, h5, h7⟩ := h
  refine ⟨_, rfl, ?_⟩
  unfold enc
  simp [mrow_at, mset_at, upd]
  refine ⟨h1, fun k hk2 => ?_, fun k hk2 => ?_, fun k hk2 => ?_, fun k hk2 => ?_⟩
  · rw [cpy_at (by omega), cpy_at (by omega), cpy_at (by omega)]; exact h2 k hk2
  · rw [cpy_at (by omega)]; exact h4 k hk2
  · rw [cpy_at (by omega), cpy_at (by omega)]; exact h5 k hk2
  · rw [cpy_at (by omega), cpy_at (by omega), cpy_at (by omega), cpy_at (by omega)]; exact h7 k hk2
