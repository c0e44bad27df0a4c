/-! ===== pure side: the class's flock, what it tells ===== -/
def sumN (f : Nat → Nat) : Nat → Nat
  | 0 => 0
  | k + 1 => sumN f k + f k
theorem sumN_le {f : Nat → Nat} {m : Nat} : ∀ n, (∀ k, k < n → f k ≤ m) → sumN f n ≤ n * m
  | 0, _ => by simp [sumN]
  | n + 1, h => by
    have h1 := sumN_le n (fun k hk => h k (by omega))
    have h2 := h n (by omega)
    unfold sumN
    rw [Nat.succ_mul]
    omega
def bitsI (P : Nat → Bool) : Nat → Int32
  | 0 => nI 0
  | k + 1 => if P k = true then bitsI P k ||| ((nI 1) <<< ((nI k) &&& 31)) else bitsI P k
def feath (A : Fk) (g : Nat) : Nat := sumN (sh A g) 5
theorem feath_le {A : Fk} (hk : okF A) {g : Nat} (hg : g < A 0 0) : feath A g ≤ 495 := sumN_le (m := 99) 5 (fun o ho => sh_le hk hg ho)
theorem feathersOf_eq {f : Mem} {A : Fk} (h : enc f A) (hk : okF A) {g : Nat} (hg : g < A 0 0) : p_X0_feathersOf f (nI g) = some (nI (feath A g)) := by
  have key : lp (p_X0_feathersOf_L4 f (nI g)) (nI 0, nI 0) = some (nI (feath A g)) := by
    refine lp_for (fun i => (nI (sumN (sh A g) i), nI i)) 5 (fun i hi => ?_) ?_
    · unfold p_X0_feathersOf_L4
      dsimp only
      rw [if_neg (nI_ge hi (by decide)), held_eq h hk hg hi]
      simp only [Option.bind_some, nI_add]
      rfl
    · unfold p_X0_feathersOf_L4
      dsimp only
      rw [if_pos (Int32.le_refl _)]
      rfl
  unfold p_X0_feathersOf
  rw [key]
  rfl
theorem geese_lt {A : Fk} (hk : okF A) : A 0 0 < 2 ^ 31 := by have := hk.1.1; omega
def bareI (A : Fk) : Int32 := bitsI (fun g => decide (feath A g = 0)) (A 0 0)
theorem bareGeese_eq {f : Mem} {A : Fk} (h : enc f A) (hk : okF A) : p_X0_bareGeese f = some (bareI A) := by
  have h3 := hk.1.1
  have key : lp (p_X0_bareGeese_L4 f) (nI 0, nI 0) = some (bareI A) := by
    refine lp_for (fun i => (bitsI (fun g => decide (feath A g = 0)) i, nI i)) (A 0 0) (fun i hi => ?_) ?_
    · have := feath_le hk hi
      unfold p_X0_bareGeese_L4
      dsimp only
      rw [h.1.1, if_neg (nI_ge hi (geese_lt hk)), feathersOf_eq h hk hi]
      simp only [Option.bind_some, nI_add]
      by_cases hc : feath A i = 0
      · rw [if_pos ((nI_z (by omega)).mpr hc)]; simp [bitsI, hc]
      · rw [if_neg (fun z => hc ((nI_z (by omega)).mp z))]; simp [bitsI, hc]
    · unfold p_X0_bareGeese_L4
      dsimp only
      rw [h.1.1, if_pos (Int32.le_refl _)]
      rfl
  unfold p_X0_bareGeese
  rw [key]
  rfl
theorem eI_eq {e o : Nat} (he : e ≤ 5) (ho : o < 5) : eI e = nI o ↔ e = o := by
  unfold eI
  by_cases h : e < 5
  · rw [if_pos h]; exact nI_eq (by omega) (by omega)
  · rw [if_neg h]
    constructor
    · intro z; exact absurd z.symm (nI_m (by omega) (by decide))
    · intro z; omega
def eggsI (A : Fk) (o : Nat) : Int32 := bitsI (fun g => decide (egg A g = o)) (A 0 0)
theorem geeseWithEggOf_eq {f : Mem} {A : Fk} (h : enc f A) (hk : okF A) {o : Nat} (ho : o < 5) : p_X0_geeseWithEggOf f (nI o) = some (eggsI A o) := by
  have key : lp (p_X0_geeseWithEggOf_L4 f (nI o)) (nI 0, nI 0) = some (eggsI A o) := by
    refine lp_for (fun i => (bitsI (fun g => decide (egg A g = o)) i, nI i)) (A 0 0) (fun i hi => ?_) ?_
    · have := egg_le hk hi
      unfold p_X0_geeseWithEggOf_L4
      dsimp only
      rw [h.1.1, if_neg (nI_ge hi (geese_lt hk)), eggOwner_eq h hk hi]
      simp only [Option.bind_some, nI_add]
      by_cases hc : egg A i = o
      · rw [if_pos ((eI_eq this ho).mpr hc)]; simp [bitsI, hc]
      · rw [if_neg (fun z => hc ((eI_eq this ho).mp z))]; simp [bitsI, hc]
    · unfold p_X0_geeseWithEggOf_L4
      dsimp only
      rw [h.1.1, if_pos (Int32.le_refl _)]
      rfl
  unfold p_X0_geeseWithEggOf
  rw [key]
  rfl
def worth (A : Fk) (o : Nat) : Nat := A 5 o + sumN (fun g => sh A g o * A 3 g) (A 0 0)
theorem worth_eq {f : Mem} {A : Fk} (h : enc f A) (hk : okF A) {o : Nat} (ho : o < 5) : p_X0_worth f (nI o) = some (nI (worth A o)) := by
  have h3 := hk.1.1
  have key : lp (p_X0_worth_L9 f (nI o)) (nI (A 5 o), nI 0) = some (nI (worth A o)) := by
    refine lp_for (fun i => (nI (A 5 o + sumN (fun g => sh A g o * A 3 g) i), nI i)) (A 0 0) (fun i hi => ?_) ?_
    · unfold p_X0_worth_L9
      dsimp only
      rw [h.1.1, if_neg (nI_ge hi (geese_lt hk)), held_eq h hk hi ho]
      simp only [Option.bind_some]
      rw [gd_t (inb_nI (by omega) (by decide)), nI_clamp (by omega), (h.2.1 i hi).2.2, pk_mul, nI_add, nI_add]
      simp only [sumN, Nat.add_assoc]
    · unfold p_X0_worth_L9
      dsimp only
      rw [h.1.1, if_pos (Int32.le_refl _)]
      rfl
  unfold p_X0_worth
  rw [gd_t (inb_nI (by omega) (by decide)), nI_clamp (by omega), (h.2.2.2.1 o ho).1, key]
  rfl
def loss (k s : Nat) : Nat := if k = 0 then s / 8 else if k = 1 then min s (2 * (s / 8) + 1) else if k = 2 then min s (2 * (s / 8) + 1) / 2 else s / 8 - 1
theorem loss_le (k s : Nat) : loss k s ≤ s := by
  unfold loss
  split
  · omega
  · split
    · omega
    · split <;> omega
