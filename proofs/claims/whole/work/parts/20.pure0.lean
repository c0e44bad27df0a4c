/-! ===== pure side: numbers, tests, loops ===== -/
def bI (c : Bool) : Int32 := if c = true then nI 1 else nI 0
theorem bI_0 (c : Bool) : bI c = 0 ↔ c = false := by cases c <;> simp [bI] <;> decide
theorem bI_t : bI true = nI 1 := rfl
theorem bI_f : bI false = nI 0 := rfl
theorem nI_z {a : Nat} (h : a < 2 ^ 31) : nI a = 0 ↔ a = 0 := nI_eq h (by decide : (0 : Nat) < 2 ^ 31)
theorem nI_m {a : Nat} (h : a < 2 ^ 31) {x : Int32} (hx : x.toInt < 0) : ¬ nI a = x := by
  intro e
  have := nI_toInt h
  rw [e] at this
  omega
/-- between two bounds -/
def wi (x a b : Int32) : Bool := decide (a ≤ x) && decide (x ≤ b)
theorem isWithin_eq (x a b : Int32) : p_X6_isWithin x a b = some (bI (wi x a b)) := by
  unfold p_X6_isWithin wi
  by_cases h1 : x < a
  · rw [if_pos h1, decide_eq_false (Int32.not_le.mpr h1)]; rfl
  · rw [if_neg h1, decide_eq_true (Int32.not_lt.mp h1)]
    by_cases h2 : b < x
    · rw [if_pos h2, decide_eq_false (Int32.not_le.mpr h2)]; rfl
    · rw [if_neg h2, decide_eq_true (Int32.not_lt.mp h2)]; rfl
theorem wi_of {x : Int32} {b : Nat} (hb : b < 2 ^ 31) (h : wi x (nI 0) (nI b) = true) : ∃ j, j ≤ b ∧ x = nI j := by
  unfold wi at h
  simp only [Bool.and_eq_true, decide_eq_true_eq] at h
  obtain ⟨j, hj, rfl⟩ := nI_of (x := x) (Int32.not_lt.mpr h.1)
  exact ⟨j, (nI_leI hj hb).mp h.2, rfl⟩
theorem wi_nI {j a b : Nat} (hj : j < 2 ^ 31) (ha : a < 2 ^ 31) (hb : b < 2 ^ 31) : wi (nI j) (nI a) (nI b) = (decide (a ≤ j) && decide (j ≤ b)) := by
  unfold wi
  rw [decide_eq_decide.mpr (nI_leI ha hj), decide_eq_decide.mpr (nI_leI hj hb)]
/-- a loop by an invariant -/
theorem lp_ex {σ ρ : Type} {b : σ → Option (σ ⊕ ρ)} (I : Nat → σ → Prop) (N : Nat) {Q : ρ → Prop} (hs : ∀ i, i < N → ∀ s, I i s → ∃ s', b s = some (.inl s') ∧ I (i + 1) s') (he : ∀ s, I N s → ∃ x, b s = some (.inr x) ∧ Q x) {s : σ} {i : Nat} (hi : i ≤ N) (h : I i s) : ∃ x, lp b s = some x ∧ Q x := by
  obtain ⟨k, hk⟩ : ∃ k, i + k = N := ⟨N - i, by omega⟩
  induction k generalizing i s with
  | zero =>
    have : i = N := by omega
    subst this
    obtain ⟨x, h1, h2⟩ := he s h
    exact ⟨x, by rw [lp_eq, h1]; rfl, h2⟩
  | succ k ih =>
    obtain ⟨s', h1, h2⟩ := hs i (by omega) s h
    obtain ⟨x, h3, h4⟩ := ih (i := i + 1) (s := s') (by omega) h2 (by omega)
    exact ⟨x, by rw [lp_eq, h1]; exact h3, h4⟩
/-! ===== a flock as numbers ===== -/
abbrev Fk : Type := Nat → Nat → Nat
def enc (f : Mem) (A : Fk) : Prop := (f 0 0 = nI (A 0 0) ∧ f 0 1 = nI (A 0 1) ∧ f 0 2 = nI (A 0 2)) ∧ (∀ k, k < A 0 0 → f 1 k = nI (A 1 k) ∧ f 2 k = nI (A 2 k) ∧ f 3 k = nI (A 3 k)) ∧ (∀ k, k < 15 → f 4 k = nI (A 4 k)) ∧ (∀ k, k < 5 → f 5 k = nI (A 5 k) ∧ f 6 k = nI (A 6 k)) ∧ (∀ k, k < A 0 2 → f 7 k = nI (A 7 k) ∧ f 8 k = nI (A 8 k) ∧ f 9 k = nI (A 9 k) ∧ f 10 k = nI (A 10 k))
def okF (A : Fk) : Prop := (A 0 0 ≤ 3 ∧ A 0 2 ≤ 6) ∧ (∀ k, k < A 0 0 → A 1 k < 4 ∧ A 2 k < 5 ∧ 1 ≤ A 3 k ∧ A 3 k ≤ 9) ∧ (∀ k, k < 15 → A 4 k ≤ 99) ∧ (∀ k, k < 5 → A 5 k ≤ 999) ∧ (∀ k, k < A 0 2 → A 7 k < 5 ∧ A 8 k < 5 ∧ A 7 k ≠ A 8 k ∧ A 9 k < A 0 0 ∧ 1 ≤ A 10 k ∧ A 10 k ≤ 9) ∧ (∀ k, k < 15 → 5 * A 0 0 ≤ k → A 4 k = 0)
def sh (A : Fk) (g o : Nat) : Nat := A 4 (g * 5 + o)
theorem sh_le {A : Fk} (h : okF A) {g o : Nat} (hg : g < A 0 0) (ho : o < 5) : sh A g o ≤ 99 := h.2.2.1 _ (by have := h.1.1; omega)
theorem held_eq {f : Mem} {A : Fk} (h : enc f A) (hk : okF A) {g o : Nat} (hg : g < A 0 0) (ho : o < 5) : p_X0_held f (nI g) (nI o) = some (nI (sh A g o)) := by
  have h3 := hk.1.1
  unfold p_X0_held
  rw [pk_mul, nI_add, gd_t (inb_nI (by omega) (by decide)), nI_clamp (by omega), h.2.2.1 _ (by omega)]
  rfl
/-- who has most of a goose among the first ones, of several the first -/
def bst (A : Fk) (g : Nat) : Nat → Nat
  | 0 => 0
  | k + 1 => if sh A g (k + 1) ≤ sh A g (bst A g k) then bst A g k else k + 1
theorem bst_le (A : Fk) (g : Nat) : ∀ k, bst A g k ≤ k
  | 0 => Nat.le_refl 0
  | k + 1 => by
    have := bst_le A g k
    unfold bst
    split <;> omega
/-- whose the egg is: 5 is nobody -/
def egg (A : Fk) (g : Nat) : Nat := if sh A g (bst A g 4) = 0 then 5 else if sh A g (A 2 g) = sh A g (bst A g 4) then A 2 g else bst A g 4
def eI (e : Nat) : Int32 := if e < 5 then nI e else -4
theorem egg_le {A : Fk} (hk : okF A) {g : Nat} (hg : g < A 0 0) : egg A g ≤ 5 := by
  have h1 := (hk.2.1 g hg).2.1
  have h2 := bst_le A g 4
  unfold egg
  split
  · omega
  · split <;> omega
theorem eggOwner_eq {f : Mem} {A : Fk} (h : enc f A) (hk : okF A) {g : Nat} (hg : g < A 0 0) : p_X0_eggOwner f (nI g) = some (eI (egg A g)) := by
  have h3 := hk.1.1
  have hs := (hk.2.1 g hg).2.1
  have hb4 := bst_le A g 4
  have key : lp (p_X0_eggOwner_L4 f (nI g)) (nI 0, nI 1) = some (nI (bst A g 4)) := by
    refine lp_for (fun i => (nI (bst A g i), nI (i + 1))) 4 (fun i hi => ?_) ?_
    · have hb := bst_le A g i
      have l1 := sh_le hk hg (o := i + 1) (by omega)
      have l2 := sh_le hk hg (o := bst A g i) (by omega)
      unfold p_X0_eggOwner_L4
      dsimp only
      rw [if_neg (nI_ge (a := i + 1) (b := 5) (by omega) (by decide)), held_eq h hk hg (by omega), held_eq h hk hg (by omega)]
      simp only [Option.bind_some]
      by_cases hc : sh A g (i + 1) ≤ sh A g (bst A g i)
      · rw [if_pos ((nI_leI (by omega) (by omega)).mpr hc), nI_add]
        simp only [bst, if_pos hc]
      · rw [if_neg (fun z => hc ((nI_leI (by omega) (by omega)).mp z)), nI_add]
        simp only [bst, if_neg hc]
    · unfold p_X0_eggOwner_L4
      dsimp only
      rw [if_pos (Int32.le_refl _)]
  have l1 := sh_le hk hg (o := bst A g 4) (by omega)
  have l2 := sh_le hk hg (o := A 2 g) hs
  unfold p_X0_eggOwner
  rw [key]
  simp only [Option.bind_some]
  rw [held_eq h hk hg (by omega)]
  simp only [Option.bind_some]
  by_cases hz : sh A g (bst A g 4) = 0
  · rw [if_pos ((nI_z (by omega)).mpr hz)]
    simp [egg, hz, eI]
  · rw [if_neg (fun z => hz ((nI_z (by omega)).mp z)), gd_t (inb_nI (by omega) (by decide)), nI_clamp (by omega), (h.2.1 g hg).2.1, held_eq h hk hg hs, gd_t (inb_nI (by omega) (by decide))]
    simp only [Option.bind_some]
    by_cases hc : sh A g (A 2 g) = sh A g (bst A g 4)
    · rw [if_pos (by rw [hc])]
      simp [egg, hz, hc, eI, hs]
    · rw [if_neg (fun z => hc ((nI_eq (by omega) (by omega)).mp z))]
      simp [egg, hz, hc, eI, show bst A g 4 < 5 by omega]
