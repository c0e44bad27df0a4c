/-! ===== the text: the call ===== -/
section TXI
/-- an empty flock -/
def A0 : Fk := fun i _ => if i = 5 then 20 else 0
theorem clear_eq (f : Mem) : ∃ d, p_X0_clear f = some d ∧ enc d A0 := by
  unfold p_X0_clear
  rw [fill_eq 15 (by decide), fill_eq 5 (by decide)]
  simp only [Option.bind_some]
  rw [fill_eq 5 (by decide)]
  simp only [Option.bind_some]
  refine ⟨_, rfl, ⟨?_, ?_, ?_⟩, fun k hk => ?_, fun k hk => ?_, fun k hk => ?_, fun k hk => ?_⟩
  · rw [mrow_ne (by decide), mrow_ne (by decide), mrow_ne (by decide), mset_no (by decide), mset_no (by decide), mset_s]; rfl
  · rw [mrow_ne (by decide), mrow_ne (by decide), mrow_ne (by decide), mset_no (by decide), mset_s]; rfl
  · rw [mrow_ne (by decide), mrow_ne (by decide), mrow_ne (by decide), mset_s]; rfl
  · exact absurd hk (Nat.not_lt_zero k)
  · rw [mrow_ne (by decide), mrow_ne (by decide), mrow_s, if_pos hk]; rfl
  · rw [mrow_ne (by decide), mrow_s, mrow_s, if_pos hk, if_pos hk]; exact ⟨rfl, rfl⟩
  · exact absurd hk (Nat.not_lt_zero k)
theorem okD_0 : okD A0 (fun _ => false) := ⟨⟨Nat.zero_le _, Nat.zero_le _⟩, fun k hk => absurd hk (Nat.not_lt_zero k), fun _ _ => Nat.zero_le _, fun k _ => by unfold A0; rw [if_pos rfl]; decide, fun k hk => absurd hk (Nat.not_lt_zero k), fun k _ h => absurd rfl h⟩
theorem okF_0 : okF A0 := ⟨⟨Nat.zero_le _, Nat.zero_le _⟩, fun k hk => absurd hk (Nat.not_lt_zero k), fun _ _ => Nat.zero_le _, fun k _ => by unfold A0; rw [if_pos rfl]; decide, fun k hk => absurd hk (Nat.not_lt_zero k), fun _ _ _ => rfl⟩
theorem MS_0 {g : Mem} (h0 : g 0 0 = nI 0) (h1 : ∀ k, k < 60 → g 1 k = nI 0) : MS g 0 A0 := by
  refine ⟨h0, fun i j hij => ?_⟩
  rw [Nat.zero_add, h1 _ (sl_lt (Nat.zero_le _) (Nat.zero_le _) hij)]
  unfold vl A0
  by_cases h5 : i = 5
  · rw [if_pos h5, if_pos h5]; decide
  · rw [if_neg h5, if_neg h5]
theorem zero_eq (g : Mem) : ∃ g', lp (p_X7_text_L34 (nI 0)) (nI 0, g) = some g' ∧ (∀ k, k < 60 → g' 2 k = nI 0) ∧ ∀ i, i ≠ 2 → g' i = g i := by
  obtain ⟨x, hx, hQ⟩ := lp_ex (b := p_X7_text_L34 (nI 0)) (I := fun i z => z.1 = nI i ∧ (∀ k, k < i → z.2 2 k = nI 0) ∧ ∀ j, j ≠ 2 → z.2 j = g j) (Q := fun z => (∀ k, k < 60 → z 2 k = nI 0) ∧ ∀ j, j ≠ 2 → z j = g j) 60
    (fun i hi z hz => by
      obtain ⟨z1, z2⟩ := z
      obtain ⟨rfl, e3, e4⟩ := hz
      dsimp only at e3 e4
      refine ⟨(nI (i + 1), mrow 2 (upd (z2 2) i (nI 0)) z2), ?_, rfl, fun k hk => ?_, fun j hj => ?_⟩
      · unfold p_X7_text_L34
        dsimp only
        rw [if_neg (nI_ge hi (by decide)), gd_t (inb_nI (by omega) (by decide)), nI_clamp (by omega), nI_add]
        rfl
      · dsimp only
        rw [mrow_s]
        by_cases hki : k = i
        · subst hki; exact pk_us
        · rw [pk_un hki]; exact e3 k (by omega)
      · dsimp only
        rw [mrow_ne hj]; exact e4 j hj)
    (fun z hz => by
      obtain ⟨z1, z2⟩ := z
      obtain ⟨rfl, e3, e4⟩ := hz
      refine ⟨z2, ?_, e3, e4⟩
      unfold p_X7_text_L34
      dsimp only
      rw [if_pos (Int32.le_refl _)]) (i := 0) (s := (nI 0, g)) (by omega) ⟨rfl, fun k hk => by omega, fun _ _ => rfl⟩
  exact ⟨x, hx, hQ⟩
theorem over_eq (x1 : Int32) (g : Mem) : ∃ g', lp (p_X7_text_L135 x1) (nI 0, g) = some g' ∧ (∀ k, k < 60 → g' 1 k = g 2 k) ∧ (∀ k, 60 ≤ k → g' 1 k = g 1 k) ∧ ∀ i, i ≠ 1 → g' i = g i := by
  obtain ⟨x, hx, hQ⟩ := lp_ex (b := p_X7_text_L135 x1) (I := fun i z => z.1 = nI i ∧ (∀ k, k < i → z.2 1 k = g 2 k) ∧ (∀ k, 60 ≤ k → z.2 1 k = g 1 k) ∧ ∀ j, j ≠ 1 → z.2 j = g j) (Q := fun z => (∀ k, k < 60 → z 1 k = g 2 k) ∧ (∀ k, 60 ≤ k → z 1 k = g 1 k) ∧ ∀ j, j ≠ 1 → z j = g j) 60
    (fun i hi z hz => by
      obtain ⟨z1, z2⟩ := z
      obtain ⟨rfl, e3, e5, e4⟩ := hz
      dsimp only at e3 e4 e5
      refine ⟨(nI (i + 1), mrow 1 (upd (z2 1) i (z2 2 i)) z2), ?_, rfl, fun k hk => ?_, fun k hk => ?_, fun j hj => ?_⟩
      · unfold p_X7_text_L135
        dsimp only
        rw [if_neg (nI_ge hi (by decide)), gd_t (inb_nI (by omega) (by decide)), gd_t (inb_nI (by omega) (by decide)), nI_clamp (by omega), nI_add]
        rfl
      · dsimp only
        rw [mrow_s]
        by_cases hki : k = i
        · subst hki; rw [pk_us, e4 2 (by decide)]
        · rw [pk_un hki]; exact e3 k (by omega)
      · dsimp only
        rw [mrow_s, pk_un (by omega)]; exact e5 k hk
      · dsimp only
        rw [mrow_ne hj]; exact e4 j hj)
    (fun z hz => by
      obtain ⟨z1, z2⟩ := z
      obtain ⟨rfl, e3, e5, e4⟩ := hz
      refine ⟨z2, ?_, e3, e5, e4⟩
      unfold p_X7_text_L135
      dsimp only
      rw [if_pos (Int32.le_refl _)]) (i := 0) (s := (nI 0, g)) (by omega) ⟨rfl, fun k hk => by omega, fun _ _ => rfl, fun _ _ => rfl⟩
  exact ⟨x, hx, hQ⟩
theorem g_told (G : Nat → Bool) {m : Nat} (hm : m ≤ 3) : ((gbI G >>> (nI m &&& 31)) = 0 ↔ ghI G < nI m) ∧ (ghI G < nI m → ∀ k, k < 3 → G k = true → k < m) := by
  have key : ((gbI G >>> (nI m &&& 31)) = 0 ↔ ghI G < nI m) ∧ (ghI G < nI m → (G 0 = true → 0 < m) ∧ (G 1 = true → 1 < m) ∧ (G 2 = true → 2 < m)) := by
    unfold gbI ghI
    rcases (show m = 0 ∨ m = 1 ∨ m = 2 ∨ m = 3 by omega) with rfl | rfl | rfl | rfl <;> cases G 0 <;> cases G 1 <;> cases G 2 <;> decide
  refine ⟨key.1, fun h k hk hG => ?_⟩
  obtain ⟨h0, h1, h2⟩ := key.2 h
  rcases (show k = 0 ∨ k = 1 ∨ k = 2 by omega) with rfl | rfl | rfl
  · exact h0 hG
  · exact h1 hG
  · exact h2 hG
theorem okF_D {A : Fk} {G : Nat → Bool} (h : okD A G) (hG : ∀ k, k < 3 → G k = true → k < A 0 0) : okF A := by
  obtain ⟨h1, h2, h3, h4, h5, h6⟩ := h
  refine ⟨h1, h2, h3, h4, fun k hk => ?_, fun k hk hk2 => ?_⟩
  · obtain ⟨a1, a2, a3, ⟨a4, a5⟩, a6, a7⟩ := h5 k hk
    exact ⟨a1, a2, a3, hG _ a4 a5, a6, a7⟩
  · by_cases hz : A 4 k = 0
    · exact hz
    · have := hG (k / 5) (by omega) (h6 k hk hz)
      omega
variable {x0 x1 x3 x4 x5 x6 x8 s0 s1 s2 s3 g : Mem}
theorem R_sheet_of {s g g' : Mem} {k : Nat} (h : R_sheet s g k) (hf : ∀ i, 9 ≤ i → i ≤ 11 → g' i = g i) : R_sheet s g' k := by
  unfold R_sheet
  rw [hf 9 (by decide) (by decide), hf 10 (by decide) (by decide), hf 11 (by decide) (by decide)]
  exact h
theorem R_tape_0 {x5 g : Mem} (h : x5 0 0 = nI 0) (hg : g 0 5 = nI 0) : R_tape x5 g := ⟨0, by decide, h, hg, fun k hk => absurd hk (Nat.not_lt_zero k)⟩
/-- a text that has a fault -/
theorem Rel_fault (R : Rel x0 x1 x3 x4 x5 x6 x8 s0 s1 s2 s3 g) {x5' x6' g' : Mem} (h0 : ∀ j, j = 0 ∨ j = 21 ∨ j = 22 → g' 0 j = g 0 j) (hi : ∀ i, i ≠ 0 → i ≠ 2 → g' i = g i) (h5 : x5' 0 0 = nI 0) (hg5 : g' 0 5 = nI 0) (h6 : x6' 0 1 = g' 0 6) : Rel x0 x1 x3 x4 x5' x6' x8 s0 s1 s2 s3 g' := by
  obtain ⟨A, h, hk, hm, r1, r2, ⟨k0, k1, r3, r4, r5, r6, r7⟩, r8, ⟨r9, r10, r11, r12⟩, r13, r14⟩ := R
  have MSf : ∀ pg B, MS g pg B → MS g' pg B := fun pg B hB => ⟨by rw [h0 0 (.inl rfl)]; exact hB.1, fun i j hij => by rw [hi 1 (by decide) (by decide)]; exact hB.2 i j hij⟩
  have s9 : ∀ i, 9 ≤ i → i ≤ 11 → g' i = g i := fun i a b => hi i (by omega) (by omega)
  refine ⟨A, h, hk, MSf 0 A hm, R_tape_0 h5 hg5, h6, ⟨k0, k1, r3, by rw [hi 8 (by decide) (by decide)]; exact r4, by rw [hi 8 (by decide) (by decide)]; exact r5, fun hq => ?_, fun hq => ?_⟩, ?_, ⟨R_sheet_of r9 s9, R_sheet_of r10 s9, R_sheet_of r11 s9, R_sheet_of r12 s9⟩, ?_, ?_⟩
  · obtain ⟨B, b1, b2, b3⟩ := r6 hq
    exact ⟨B, b1, b2, MSf 60 B b3⟩
  · obtain ⟨B, b1, b2, b3⟩ := r7 hq
    exact ⟨B, b1, b2, MSf 120 B b3⟩
  · unfold R_seen
    rw [h0 21 (.inr (.inl rfl)), hi 6 (by decide) (by decide)]
    exact r8
  · rw [h0 22 (.inr (.inr rfl))]; exact r13
  · unfold R_const
    rw [hi 4 (by decide) (by decide), hi 5 (by decide) (by decide)]
    exact r14
/-- a text that is taken -/
theorem Rel_taken (R : Rel x0 x1 x3 x4 x5 x6 x8 s0 s1 s2 s3 g) {x0' x1' x5' x6' x8' g' : Mem} {B : Fk} (h22 : g' 0 22 = g 0 22) (hi : ∀ i, 3 ≤ i → i ≠ 8 → g' i = g i) (a1 : enc x1' B) (a2 : okF B) (a3 : MS g' 0 B) (h5 : x5' 0 0 = nI 0) (hg5 : g' 0 5 = nI 0) (h6 : x6' 0 1 = g' 0 6) (hx0 : x0' 0 0 = nI 0) (hx1 : x0' 0 1 = x0 0 1) (h80 : g' 8 0 = nI 0) (h81 : g' 8 1 = nI 0) (hs : x8' 0 0 = nI 0) (hg : g' 0 21 = nI 0) : Rel x0' x1' x3 x4 x5' x6' x8' s0 s1 s2 s3 g' := by
  obtain ⟨A, -, -, -, -, -, -, -, ⟨r9, r10, r11, r12⟩, r13, r14⟩ := R
  have s9 : ∀ i, 9 ≤ i → i ≤ 11 → g' i = g i := fun i a b => hi i (by omega) (by omega)
  refine ⟨B, a1, a2, a3, R_tape_0 h5 hg5, h6, ⟨false, false, hx0, h80, h81, fun z => Bool.noConfusion z, fun z => Bool.noConfusion z⟩, ⟨0, fun _ _ => 0, by decide, hs, hg, fun e he => absurd he (Nat.not_lt_zero e)⟩, ⟨R_sheet_of r9 s9, R_sheet_of r10 s9, R_sheet_of r11 s9, R_sheet_of r12 s9⟩, ?_, ?_⟩
  · rw [hx1, h22]; exact r13
  · unfold R_const
    rw [hi 4 (by decide) (by decide), hi 5 (by decide) (by decide)]
    exact r14
end TXI
