/-! ===== pure side: a week of the class's flock ===== -/
/-- the egg of a goose is laid -/
def lay (A : Fk) (g : Nat) : Fk := if egg A g < 5 then fset A 6 (egg A g) (A 6 (egg A g) + 1) else A
def weekTo (m : Bool) (A : Fk) : Nat → Fk × Nat
  | 0 => (A, 0)
  | g + 1 => (if m = true then moult (lay (weekTo m A g).1 g) g else lay (weekTo m A g).1 g, (weekTo m A g).2 + if egg (weekTo m A g).1 g < 5 then 1 else 0)
def week (m : Bool) (A : Fk) : Fk := fset (weekTo m A (A 0 0)).1 0 1 (A 0 1 + 1)
def laid (m : Bool) (A : Fk) : Nat := (weekTo m A (A 0 0)).2
theorem lay_ne {A : Fk} {g a b : Nat} (h : a ≠ 6) : lay A g a b = A a b := by
  unfold lay
  split
  · unfold fset; rw [if_neg (by omega)]
  · rfl
theorem weekTo_ne {m : Bool} {A : Fk} {a b : Nat} (h4 : a ≠ 4) (h6 : a ≠ 6) : ∀ g, (weekTo m A g).1 a b = A a b
  | 0 => rfl
  | g + 1 => by
    unfold weekTo
    dsimp only
    split
    · rw [moult_ne h4, lay_ne h6]; exact weekTo_ne h4 h6 g
    · rw [lay_ne h6]; exact weekTo_ne h4 h6 g
theorem okF_6 {A B : Fk} (hk : okF A) (h : ∀ a b, a ≠ 6 → B a b = A a b) : okF B := by
  unfold okF
  simp only [h 0 _ (by decide), h 1 _ (by decide), h 2 _ (by decide), h 3 _ (by decide), h 4 _ (by decide), h 5 _ (by decide), h 7 _ (by decide), h 8 _ (by decide), h 9 _ (by decide), h 10 _ (by decide)]
  exact hk
theorem okF_lay {A : Fk} (hk : okF A) (g : Nat) : okF (lay A g) := okF_6 hk (fun _ _ h => lay_ne h)
theorem okF_weekTo {m : Bool} {A : Fk} (hk : okF A) : ∀ g, g ≤ A 0 0 → okF (weekTo m A g).1
  | 0, _ => hk
  | g + 1, hg => by
    have ih := okF_weekTo (m := m) hk g (by omega)
    have e0 : (weekTo m A g).1 0 0 = A 0 0 := weekTo_ne (by decide) (by decide) g
    unfold weekTo
    dsimp only
    split
    · exact okF_moult (okF_lay ih g) (by rw [lay_ne (by decide), e0]; omega)
    · exact okF_lay ih g
theorem enc_row6 {f : Mem} {A B : Fk} {r : Nat → Int32} (h : enc f A) (hr : ∀ k, k < 5 → r k = nI (B 6 k)) (ho : ∀ i j, i ≠ 6 → B i j = A i j) : enc (mrow 6 r f) B := by
  have m : ∀ i, i ≠ 6 → mrow 6 r f i = f i := fun i hi => by rw [mrow_at, if_neg hi]
  have m6 : mrow 6 r f 6 = r := by rw [mrow_at, if_pos rfl]
  obtain ⟨h1, h2, h3, h4, h5⟩ := h
  unfold enc
  rw [m 0 (by decide), m 1 (by decide), m 2 (by decide), m 3 (by decide), m 4 (by decide), m 5 (by decide), m6, m 7 (by decide), m 8 (by decide), m 9 (by decide), m 10 (by decide)]
  simp only [ho 0 _ (by decide), ho 1 _ (by decide), ho 2 _ (by decide), ho 3 _ (by decide), ho 4 _ (by decide), ho 5 _ (by decide), ho 7 _ (by decide), ho 8 _ (by decide), ho 9 _ (by decide), ho 10 _ (by decide)]
  exact ⟨h1, h2, h3, fun k hk => ⟨(h4 k hk).1, hr k hk⟩, h5⟩
theorem enc_lay {f : Mem} {A : Fk} (h : enc f A) {g : Nat} (he : egg A g < 5) : enc (mrow 6 (upd (f 6) (egg A g) (nI (A 6 (egg A g) + 1))) f) (lay A g) := by
  refine enc_row6 h (fun k hk => ?_) (fun i j hi => lay_ne hi)
  unfold lay upd fset
  rw [if_pos he]
  by_cases hk2 : k = egg A g
  · rw [if_pos hk2, if_pos ⟨rfl, hk2⟩]
  · rw [if_neg hk2, if_neg (by omega)]
    exact (h.2.2.2.1 k hk).2
theorem passWeek_step {f : Mem} {B : Fk} (h : enc f B) (hk : okF B) {g x : Nat} (hg : g < B 0 0) : ∃ f', p_X0_passWeek_L4 (nI x, nI g, f) = some (.inl (nI (x + if egg B g < 5 then 1 else 0), nI (g + 1), f')) ∧ enc f' (moult (lay B g) g) := by
  have h3 := hk.1.1
  have he := egg_le hk hg
  have hg2 : g < lay B g 0 0 := by rw [lay_ne (by decide)]; exact hg
  unfold p_X0_passWeek_L4
  dsimp only
  rw [h.1.1, if_neg (nI_ge hg (geese_lt hk)), eggOwner_eq h hk hg]
  simp only [Option.bind_some]
  by_cases hc : egg B g < 5
  · have e1 : eI (egg B g) = nI (egg B g) := by unfold eI; rw [if_pos hc]
    obtain ⟨f', q1, q2⟩ := moult_eq (enc_lay h hc) (okF_lay hk g) hg2
    refine ⟨f', ?_, q2⟩
    rw [e1, if_neg (nI_m (by omega) (by decide)), gd_t (inb_nI hc (by decide)), gd_t (inb_nI hc (by decide)), nI_clamp (by omega), (h.2.2.2.1 _ hc).2, nI_add, if_pos hc, nI_add]
    unfold bnd
    dsimp only
    unfold p_X0_passWeek_B37
    rw [q1]
    simp only [Option.bind_some, nI_add]
  · have e0 : lay B g = B := by unfold lay; rw [if_neg hc]
    obtain ⟨f', q1, q2⟩ := moult_eq h hk hg
    refine ⟨f', ?_, by rw [e0]; exact q2⟩
    have e1 : eI (egg B g) = -4 := by unfold eI; rw [if_neg hc]
    rw [e1, if_pos rfl, if_neg hc]
    unfold p_X0_passWeek_B37
    rw [q1]
    simp only [Option.bind_some, nI_add, Nat.add_zero]
