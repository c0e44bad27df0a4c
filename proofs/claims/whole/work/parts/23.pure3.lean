/-! ===== pure side: weeks of the class's flock, on ===== -/
theorem mlt_0 (A : Fk) (g : Nat) : mlt A g 0 = A := by
  funext a b
  unfold mlt
  rw [if_neg (by omega)]
theorem mlt_ne {A : Fk} {g k a b : Nat} (h : a ≠ 4) : mlt A g k a b = A a b := by unfold mlt; rw [if_neg (by omega)]
theorem moult_ne {A : Fk} {g a b : Nat} (h : a ≠ 4) : moult A g a b = A a b := by
  unfold moult fset
  rw [if_neg (by omega), mlt_ne h]
theorem moult_eq {f : Mem} {A : Fk} (h : enc f A) (hk : okF A) {g : Nat} (hg : g < A 0 0) : ∃ f', p_X0_moult f (nI g) = some f' ∧ enc f' (moult A g) := by
  have h3 := hk.1.1
  have hs := (hk.2.1 g hg).2.1
  obtain ⟨x, hx, hQ⟩ := lp_ex (b := p_X0_moult_L4 (nI g)) (I := fun i z => z.1 = nI (lostTo A g i) ∧ z.2.1 = nI i ∧ enc z.2.2 (mlt A g i)) (Q := fun z => z.1 = nI (lostTo A g 5) ∧ enc z.2 (mlt A g 5)) 5
    (fun i hi z hz => by
      obtain ⟨z1, z2, z3⟩ := z
      obtain ⟨rfl, rfl, e3⟩ := hz
      obtain ⟨q1, q2⟩ := moult_step hk hg hi e3
      exact ⟨_, q1, rfl, rfl, q2⟩)
    (fun z hz => by
      obtain ⟨z1, z2, z3⟩ := z
      obtain ⟨rfl, rfl, e3⟩ := hz
      refine ⟨(nI (lostTo A g 5), z3), ?_, rfl, e3⟩
      unfold p_X0_moult_L4
      dsimp only
      rw [if_pos (Int32.le_refl _)]) (i := 0) (s := (nI 0, nI 0, f)) (by omega) ⟨rfl, rfl, by rw [mlt_0]; exact h⟩
  obtain ⟨x1, f4⟩ := x
  obtain ⟨e1, e2⟩ := hQ
  dsimp only at e1 e2
  subst e1
  have es : f4 2 g = nI (A 2 g) := (e2.2.1 g (by rw [mlt_ne (by decide)]; exact hg)).2.1.trans (by rw [mlt_ne (by decide)])
  have e4 : f4 4 (g * 5 + A 2 g) = nI (mlt A g 5 4 (g * 5 + A 2 g)) := e2.2.2.1 _ (by omega)
  have l1 := mlt_le hk g 5 (j := g * 5 + A 2 g) (by omega)
  have l2 := lost_le hk hg
  refine ⟨_, ?_, enc_row4 (r := upd (f4 4) (g * 5 + A 2 g) (nI (min 99 (mlt A g 5 4 (g * 5 + A 2 g) + (lostTo A g 5 + 1) / 2)))) (A := mlt A g 5) (B := moult A g) e2 (fun k hk2 => ?_) (fun a b ha => ?_)⟩
  · unfold p_X0_moult
    rw [hx]
    simp only [Option.bind_some]
    rw [gd_t (inb_nI (by omega) (by decide)), nI_clamp (by omega), es]
    unfold p_X0_held
    rw [pk_mul, nI_add, gd_t (inb_nI (by omega) (by decide)), nI_clamp (by omega), e4]
    simp only [Option.bind_some]
    rw [gd_t (inb_nI (by omega) (by decide)), gd_t (inb_nI (by omega) (by decide)), nI_add, pk_div (by omega) (by decide) (by decide), nI_add, i32_ite (nI_ltI (by omega) (by omega))]
    rw [show ∀ v : Nat, (if v < 99 then v else 99) = min 99 v from fun v => by split <;> omega]
    rfl
  · unfold upd moult fset
    by_cases hki : k = g * 5 + A 2 g
    · subst hki
      rw [if_pos rfl, if_pos ⟨rfl, rfl⟩]
    · rw [if_neg hki, if_neg (by omega)]
      exact e2.2.2.1 k hk2
  · rw [moult_ne ha, mlt_ne ha]
theorem okF_moult {A : Fk} (hk : okF A) {g : Nat} (hg : g < A 0 0) : okF (moult A g) := by
  have h3 := hk.1.1
  have hs := (hk.2.1 g hg).2.1
  obtain ⟨h1, h2, h4, h5, h6, h7⟩ := hk
  unfold okF
  simp only [moult_ne (show (0 : Nat) ≠ 4 by decide), moult_ne (show (1 : Nat) ≠ 4 by decide), moult_ne (show (2 : Nat) ≠ 4 by decide), moult_ne (show (3 : Nat) ≠ 4 by decide), moult_ne (show (5 : Nat) ≠ 4 by decide), moult_ne (show (7 : Nat) ≠ 4 by decide), moult_ne (show (8 : Nat) ≠ 4 by decide), moult_ne (show (9 : Nat) ≠ 4 by decide), moult_ne (show (10 : Nat) ≠ 4 by decide)]
  refine ⟨h1, h2, fun k hk2 => ?_, h5, h6, fun k hk2 hk3 => ?_⟩
  · unfold moult fset
    split
    · omega
    · have := h4 k hk2
      unfold mlt
      split <;> omega
  · have := h7 k hk2 hk3
    unfold moult fset
    rw [if_neg (by omega)]
    unfold mlt
    rw [if_neg (by omega)]
    exact this
