/-! ===== pure side: what a page of the model tells ===== -/
theorem bst_max (A : Fk) (g : Nat) : ∀ k o, o ≤ k → sh A g o ≤ sh A g (bst A g k)
  | 0, o, h => by
    have : o = 0 := by omega
    subst this
    exact Nat.le_refl _
  | k + 1, o, h => by
    have ih := bst_max A g k
    unfold bst
    split
    · rename_i hc
      rcases Nat.lt_or_ge k o with h1 | h1
      · have : o = k + 1 := by omega
        subst this
        exact hc
      · exact ih o h1
    · rename_i hc
      rcases Nat.lt_or_ge k o with h1 | h1
      · have : o = k + 1 := by omega
        subst this
        exact Nat.le_refl _
      · have := ih o h1
        omega
theorem sumN_0 {f : Nat → Nat} : ∀ n, sumN f n = 0 ↔ ∀ k, k < n → f k = 0
  | 0 => ⟨fun _ k hk => by omega, fun _ => rfl⟩
  | n + 1 => by
    have ih := sumN_0 (f := f) n
    unfold sumN
    constructor
    · intro h k hk
      rcases Nat.lt_or_ge k n with h1 | h1
      · exact ih.mp (by omega) k h1
      · have : k = n := by omega
        subst this
        omega
    · intro h
      have h1 := ih.mpr (fun k hk => h k (by omega))
      have h2 := h n (by omega)
      omega
theorem feath_0 (A : Fk) (g : Nat) : feath A g = 0 ↔ sh A g (bst A g 4) = 0 := by
  unfold feath
  rw [sumN_0]
  constructor
  · intro h; exact h _ (by have := bst_le A g 4; omega)
  · intro h k hk
    have := bst_max A g 4 k (by omega)
    omega
theorem eggOn_eq {g : Mem} {pg : Nat} {A : Fk} (h : MS g pg A) (hk : okF A) (hp : pg ≤ 300) {k : Nat} (hg : k < A 0 0) : p_X7_eggOn g (nI pg) (nI k) = some (eI (egg A k)) := by
  have h3 := hk.1.1
  have hs := (hk.2.1 k hg).2.1
  have hb4 := bst_le A k 4
  have key : lp (p_X7_eggOn_L5 g (nI pg) (nI k)) (nI 0, nI 1) = some (nI (bst A k 4)) := by
    refine lp_for (fun i => (nI (bst A k i), nI (i + 1))) 4 (fun i hi => ?_) ?_
    · have hb := bst_le A k i
      have l1 := sh_le hk hg (o := i + 1) (by omega)
      have l2 := sh_le hk hg (o := bst A k i) (by omega)
      unfold p_X7_eggOn_L5
      dsimp only
      rw [if_neg (nI_ge (a := i + 1) (b := 5) (by omega) (by decide)), shareOn_eq h hp (by omega) (by omega), shareOn_eq h hp (by omega) (by omega)]
      simp only [Option.bind_some]
      by_cases hc : sh A k (i + 1) ≤ sh A k (bst A k i)
      · rw [if_pos ((nI_leI (by omega) (by omega)).mpr hc), nI_add]
        simp only [bst, if_pos hc]
      · rw [if_neg (fun z => hc ((nI_leI (by omega) (by omega)).mp z)), nI_add]
        simp only [bst, if_neg hc]
    · unfold p_X7_eggOn_L5
      dsimp only
      rw [if_pos (Int32.le_refl _)]
  have l1 := sh_le hk hg (o := bst A k 4) (by omega)
  have l2 := sh_le hk hg (o := A 2 k) hs
  have l3 := feath_le hk hg
  unfold p_X7_eggOn
  rw [key]
  simp only [Option.bind_some]
  rw [nI_add, nI_add, gd_t (inb_nI (by omega) (by decide)), nI_clamp (by omega), MS_skin h hg h3, shareOn_eq h hp (by omega) hs, shareOn_eq h hp (by omega) (by omega)]
  simp only [Option.bind_some]
  have fin : ∀ e, p_X7_eggOn_B78 g (nI pg) (nI k) (nI e) = some (if sh A k (bst A k 4) = 0 then -4 else nI e) := fun e => by
    unfold p_X7_eggOn_B78
    rw [feathersOn_eq h hp (by omega)]
    simp only [Option.bind_some]
    by_cases hz : sh A k (bst A k 4) = 0
    · rw [if_pos ((nI_z (by omega)).mpr ((feath_0 A k).mpr hz)), if_pos hz]
    · rw [if_neg (fun z => hz ((feath_0 A k).mp ((nI_z (by omega)).mp z))), if_neg hz]
  unfold egg
  by_cases hc : sh A k (A 2 k) = sh A k (bst A k 4)
  · rw [if_pos (by rw [hc]), fin, if_pos hc]
    split
    · rfl
    · unfold eI; rw [if_pos hs]
  · rw [if_neg (fun z => hc ((nI_eq (by omega) (by omega)).mp z)), fin, if_neg hc]
    split
    · rfl
    · unfold eI; rw [if_pos (by omega)]
theorem or_0 (x : Int32) : x ||| nI 0 = x := Int32.or_zero
theorem eggsNow_eq {g : Mem} {pg : Nat} {A : Fk} (h : MS g pg A) (hk : okF A) (hp : pg ≤ 300) {o : Nat} (ho : o < 5) : p_X7_eggsNow g (nI pg) (nI o) = some (eggsI A o) := by
  have key : lp (p_X7_eggsNow_L5 g (nI pg) (nI o)) (nI 0, nI 0) = some (eggsI A o) := by
    refine lp_for (fun i => (bitsI (fun g => decide (egg A g = o)) i, nI i)) (A 0 0) (fun i hi => ?_) ?_
    · have := egg_le hk hi
      unfold p_X7_eggsNow_L5
      dsimp only
      rw [h.1, if_neg (nI_ge hi (geese_lt hk)), eggOn_eq h hk hp hi]
      simp only [Option.bind_some]
      unfold p_X7_eggsNow_B34
      by_cases hc : egg A i = o
      · rw [if_pos ((eI_eq this ho).mpr hc), nI_add]; simp [bitsI, hc]
      · rw [if_neg (fun z => hc ((eI_eq this ho).mp z)), nI_add, or_0]; simp [bitsI, hc]
    · unfold p_X7_eggsNow_L5
      dsimp only
      rw [h.1, if_pos (Int32.le_refl _)]
      rfl
  unfold p_X7_eggsNow
  rw [key]
  rfl
theorem worthOn_eq {g : Mem} {pg : Nat} {A : Fk} (h : MS g pg A) (hk : okF A) (hp : pg ≤ 300) {o : Nat} (ho : o < 5) : p_X7_worthOn g (nI pg) (nI o) = some (nI (worth A o)) := by
  have h3 := hk.1.1
  have key : lp (p_X7_worthOn_L10 g (nI pg) (nI o)) (nI (A 5 o), nI 0) = some (nI (worth A o)) := by
    refine lp_for (fun i => (nI (A 5 o + sumN (fun g => sh A g o * A 3 g) i), nI i)) (A 0 0) (fun i hi => ?_) ?_
    · unfold p_X7_worthOn_L10
      dsimp only
      rw [h.1, if_neg (nI_ge hi (geese_lt hk)), shareOn_eq h hp (by omega) ho]
      simp only [Option.bind_some, nI_add]
      rw [gd_t (inb_nI (by omega) (by decide)), nI_clamp (by omega), MS_price h hi h3, pk_mul, nI_add]
      simp only [sumN, Nat.add_assoc]
    · unfold p_X7_worthOn_L10
      dsimp only
      rw [h.1, if_pos (Int32.le_refl _)]
      rfl
  unfold p_X7_worthOn
  rw [moneyOn_eq h hp ho]
  simp only [Option.bind_some]
  rw [key]
  rfl
theorem losesOf_eq {k s : Nat} (hk : k < 4) (hs : s ≤ 99) : p_X7_losesOf (nI k) (nI s) = some (nI (loss k s)) := by
  have e8 : nI s / nI 8 = nI (s / 8) := pk_div (by omega) (by decide) (by decide)
  have fin : ∀ m, m ≤ 1000 → p_X7_losesOf_B23 (nI k) (nI (s / 8)) (nI m) = some (nI (if k = 0 then s / 8 else if k = 1 then m else if k = 2 then m / 2 else s / 8 - 1)) := fun m hm => by
    unfold p_X7_losesOf_B23
    rcases (show k = 0 ∨ k = 1 ∨ k = 2 ∨ k = 3 by omega) with rfl | rfl | rfl | rfl
    · rw [if_pos (show nI 0 = 0 from rfl), if_pos rfl]
    · rw [if_neg (by decide), if_pos rfl, if_neg (by decide), if_pos rfl]
    · rw [if_neg (by decide), if_neg (by decide), if_pos rfl, pk_div (by omega) (by decide) (by decide), if_neg (by decide), if_neg (by decide), if_pos rfl]
    · rw [if_neg (by decide), if_neg (by decide), if_neg (by decide), if_neg (show ¬ (3 : Nat) = 0 by decide), if_neg (show ¬ (3 : Nat) = 1 by decide), if_neg (show ¬ (3 : Nat) = 2 by decide)]
      by_cases h8 : s / 8 = 0
      · rw [h8]; rfl
      · rw [if_neg (fun z => by have := (nI_leI (a := s / 8) (b := 0) (by omega) (by decide)).mp z; omega), pk_sub (by omega)]
  unfold p_X7_losesOf loss
  rw [e8, pk_mul, nI_add]
  by_cases hc : 2 * (s / 8) + 1 ≤ s
  · rw [if_pos ((nI_leI (by omega) (by omega)).mpr hc), fin _ (by omega), Nat.min_eq_right hc]
  · rw [if_neg (fun z => hc ((nI_leI (by omega) (by omega)).mp z)), fin _ (by omega), Nat.min_eq_left (by omega)]
