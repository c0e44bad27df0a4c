/-! ===== a new object ===== -/
theorem enc_new : enc i_X0 A0 := by
  unfold i_X0
  refine ⟨⟨?_, ?_, ?_⟩, fun k hk => absurd hk (Nat.not_lt_zero k), fun k hk => ?_, fun k hk => ?_, fun k hk => absurd hk (Nat.not_lt_zero k)⟩
  · rw [mrow_ne (by decide)]; rfl
  · rw [mrow_ne (by decide)]; rfl
  · rw [mrow_ne (by decide)]; rfl
  · rw [mrow_ne (by decide)]; rfl
  · rw [mrow_s, mrow_ne (by decide), if_pos hk]; exact ⟨rfl, rfl⟩
theorem i7_else {i : Nat} (h4 : i ≠ 4) (h5 : i ≠ 5) (h9 : i ≠ 9) : i_X7 i = fun _ => 0 := by
  unfold i_X7
  rw [mrow_ne h9, mrow_ne h5, mrow_ne h4]
  rfl
theorem i7_9 : i_X7 9 0 = -4 ∧ i_X7 9 1 = -4 ∧ i_X7 9 2 = -4 ∧ i_X7 9 3 = -4 := by
  unfold i_X7
  rw [mrow_s]
  refine ⟨?_, ?_, ?_, ?_⟩
  · rw [pk_un (by decide), pk_un (by decide), pk_un (by decide), pk_us]
  · rw [pk_un (by decide), pk_un (by decide), pk_us]
  · rw [pk_un (by decide), pk_us]
  · rw [pk_us]
theorem Rel_new : Rel i_X6 i_X0 i_X0 i_X0 i_X4 i_X5 i_X3 i_X2 i_X2 i_X2 i_X2 i_X7 := by
  have e0 : i_X7 0 = fun _ => 0 := i7_else (by decide) (by decide) (by decide)
  have e1 : i_X7 1 = fun _ => 0 := i7_else (by decide) (by decide) (by decide)
  have e8 : i_X7 8 = fun _ => 0 := i7_else (by decide) (by decide) (by decide)
  have e2 : i_X2 0 0 = nI 1 := by unfold i_X2; rw [mset_s]
  obtain ⟨n0, n1, n2, n3⟩ := i7_9
  refine ⟨A0, enc_new, okF_0, MS_0 (by rw [e0]; rfl) (fun k _ => by rw [e1]; rfl), R_tape_0 rfl (by rw [e0]; rfl), by rw [e0]; rfl, ⟨false, false, rfl, by rw [e8]; rfl, by rw [e8]; rfl, fun z => Bool.noConfusion z, fun z => Bool.noConfusion z⟩, ⟨0, fun _ _ => 0, by decide, rfl, by rw [e0]; rfl, fun e he => absurd he (Nat.not_lt_zero e)⟩, ⟨.inl ⟨e2, n0⟩, .inl ⟨e2, n1⟩, .inl ⟨e2, n2⟩, .inl ⟨e2, n3⟩⟩, by rw [e0]; rfl, fun _ _ => rfl, fun _ _ => rfl⟩
