/-! ===== pure side: weeks of the class's flock ===== -/
theorem i32_ite {c d : Prop} [Decidable c] [Decidable d] {a b : Nat} (h : c ↔ d) : (if c then nI a else nI b) = nI (if d then a else b) := by
  by_cases hc : c
  · rw [if_pos hc, if_pos (h.mp hc)]
  · rw [if_neg hc, if_neg (fun z => hc (h.mpr z))]
theorem lossOf_eq {k s : Nat} (hk : k < 4) (hs : s ≤ 99) : p_X0_lossOf (nI k) (nI s) = some (nI (loss k s)) := by
  have e8 : nI s / nI 8 = nI (s / 8) := pk_div (by omega) (by decide) (by decide)
  unfold p_X0_lossOf loss
  rw [e8, pk_mul, nI_add, i32_ite (nI_ltI (a := 2 * (s / 8) + 1) (b := s) (by omega) (by omega))]
  rcases (show k = 0 ∨ k = 1 ∨ k = 2 ∨ k = 3 by omega) with rfl | rfl | rfl | rfl
  · simp
  · rw [if_neg (by decide), if_pos rfl]
    simp only [show ¬ (1 : Nat) = 0 by decide, if_false, if_true]
    congr 2
    split <;> omega
  · rw [if_neg (by decide), if_neg (by decide), if_pos rfl, pk_div (by split <;> omega) (by decide) (by decide)]
    simp only [show ¬ (2 : Nat) = 0 by decide, show ¬ (2 : Nat) = 1 by decide, if_false, if_true]
    congr 3
    split <;> omega
  · rw [if_neg (by decide), if_neg (by decide), if_neg (by decide), if_pos rfl]
    simp only [show ¬ (3 : Nat) = 0 by decide, show ¬ (3 : Nat) = 1 by decide, show ¬ (3 : Nat) = 2 by decide, if_false]
    by_cases h8 : s / 8 = 0
    · rw [h8]; decide
    · rw [pk_sub (by omega), i32_ite (nI_ltI (by decide) (by omega))]
      congr 2
      split <;> omega
/-- a place of a flock is set -/
def fset (A : Fk) (i j v : Nat) : Fk := fun a b => if a = i ∧ b = j then v else A a b
/-- shares of the first k owners of a goose have moulted -/
def mlt (A : Fk) (g k : Nat) : Fk := fun a b => if a = 4 ∧ g * 5 ≤ b ∧ b < g * 5 + k then A 4 b - loss (A 1 g) (A 4 b) else A a b
def lostTo (A : Fk) (g k : Nat) : Nat := sumN (fun o => loss (A 1 g) (sh A g o)) k
/-- a moult of a goose -/
def moult (A : Fk) (g : Nat) : Fk := fset (mlt A g 5) 4 (g * 5 + A 2 g) (min 99 (mlt A g 5 4 (g * 5 + A 2 g) + (lostTo A g 5 + 1) / 2))
theorem enc_row4 {f : Mem} {A B : Fk} {r : Nat → Int32} (h : enc f A) (hr : ∀ k, k < 15 → r k = nI (B 4 k)) (ho : ∀ i j, i ≠ 4 → B i j = A i j) : enc (mrow 4 r f) B := by
  have m : ∀ i, i ≠ 4 → mrow 4 r f i = f i := fun i hi => by rw [mrow_at, if_neg hi]
  have m4 : mrow 4 r f 4 = r := by rw [mrow_at, if_pos rfl]
  obtain ⟨h1, h2, h3, h4, h5⟩ := h
  unfold enc
  rw [m 0 (by decide), m 1 (by decide), m 2 (by decide), m 3 (by decide), m4, m 5 (by decide), m 6 (by decide), m 7 (by decide), m 8 (by decide), m 9 (by decide), m 10 (by decide)]
  simp only [ho 0 _ (by decide), ho 1 _ (by decide), ho 2 _ (by decide), ho 3 _ (by decide), ho 5 _ (by decide), ho 6 _ (by decide), ho 7 _ (by decide), ho 8 _ (by decide), ho 9 _ (by decide), ho 10 _ (by decide)]
  exact ⟨h1, h2, hr, h4, h5⟩
theorem lost_le {A : Fk} (hk : okF A) {g : Nat} (hg : g < A 0 0) : lostTo A g 5 ≤ 495 := sumN_le (m := 99) 5 (fun o ho => Nat.le_trans (loss_le _ _) (sh_le hk hg ho))
theorem mlt_le {A : Fk} (hk : okF A) (g k : Nat) {j : Nat} (hj : j < 15) : mlt A g k 4 j ≤ 99 := by
  have := hk.2.2.1 j hj
  unfold mlt
  split
  · omega
  · exact this
theorem moult_step {f : Mem} {A : Fk} (hk : okF A) {g i : Nat} (hg : g < A 0 0) (hi : i < 5) (h : enc f (mlt A g i)) : p_X0_moult_L4 (nI g) (nI (lostTo A g i), nI i, f) = some (.inl (nI (lostTo A g (i + 1)), nI (i + 1), mrow 4 (upd (f 4) (g * 5 + i) (nI (sh A g i - loss (A 1 g) (sh A g i)))) f)) ∧ enc (mrow 4 (upd (f 4) (g * 5 + i) (nI (sh A g i - loss (A 1 g) (sh A g i)))) f) (mlt A g (i + 1)) := by
  have h3 := hk.1.1
  have hkd := (hk.2.1 g hg).1
  have e1 : f 4 (g * 5 + i) = nI (sh A g i) := by
    rw [h.2.2.1 _ (by omega)]
    unfold mlt sh
    rw [if_neg (by omega)]
  have e2 : f 1 g = nI (A 1 g) := (h.2.1 g (by show g < mlt A g i 0 0; unfold mlt; rw [if_neg (by omega)]; exact hg)).1.trans (by unfold mlt; rw [if_neg (by omega)])
  have hs := sh_le hk hg hi
  have hl := loss_le (A 1 g) (sh A g i)
  refine ⟨?_, enc_row4 h (fun k hk2 => ?_) (fun a b ha => ?_)⟩
  · unfold p_X0_moult_L4
    dsimp only
    rw [if_neg (nI_ge hi (by decide)), gd_t (inb_nI (by omega) (by decide))]
    unfold p_X0_held
    rw [pk_mul, nI_add, gd_t (inb_nI (by omega) (by decide)), nI_clamp (by omega), nI_clamp (by omega), e1, e2]
    simp only [Option.bind_some]
    rw [lossOf_eq hkd hs]
    simp only [Option.bind_some]
    rw [gd_t (inb_nI (by omega) (by decide)), gd_t (inb_nI (by omega) (by decide)), pk_sub hl, nI_add, nI_add]
    rfl
  · unfold upd mlt
    by_cases hki : k = g * 5 + i
    · subst hki
      rw [if_pos rfl, if_pos (by omega)]
      rfl
    · rw [if_neg hki, h.2.2.1 k hk2]
      unfold mlt
      by_cases hin : 4 = 4 ∧ g * 5 ≤ k ∧ k < g * 5 + i
      · rw [if_pos hin, if_pos (by omega)]
      · rw [if_neg hin, if_neg (by omega)]
  · unfold mlt
    rw [if_neg (by omega), if_neg (by omega)]
