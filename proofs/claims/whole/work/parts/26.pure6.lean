/-! ===== pure side: trades of the class's flock ===== -/
/-- may be plucked: buyer, seller, goose, feathers -/
def canP (A : Fk) (b s g n : Nat) : Bool := decide (n ≤ sh A g s) && decide (sh A g b + n ≤ 99)
def canT (A : Fk) (b s g n : Nat) : Bool := canP A b s g n && decide (n * A 3 g ≤ A 5 b) && decide (A 5 s + n * A 3 g ≤ 999)
theorem canPluck_eq {f : Mem} {A : Fk} (h : enc f A) (hk : okF A) {b s g n : Nat} (hb : b < 5) (hs : s < 5) (hg : g < A 0 0) (hn : n < 1000) : p_X0_canPluck f (nI b) (nI s) (nI g) (nI n) = some (bI (canP A b s g n)) := by
  have l1 := sh_le hk hg hs
  have l2 := sh_le hk hg hb
  unfold p_X0_canPluck canP
  rw [held_eq h hk hg hs]
  simp only [Option.bind_some]
  by_cases h1 : n ≤ sh A g s
  · rw [if_neg (fun z => by have := (nI_ltI (by omega) (by omega)).mp z; omega), held_eq h hk hg hb]
    simp only [Option.bind_some]
    rw [nI_add, decide_eq_true h1]
    by_cases h2 : sh A g b + n ≤ 99
    · rw [if_neg (fun z => by have := (nI_ltI (by omega) (by omega)).mp z; omega), decide_eq_true h2]; rfl
    · rw [if_pos ((nI_ltI (by omega) (by omega)).mpr (by omega)), decide_eq_false h2]; rfl
  · rw [if_pos ((nI_ltI (by omega) (by omega)).mpr (by omega)), decide_eq_false h1]; rfl
theorem canTrade_eq {f : Mem} {A : Fk} (h : enc f A) (hk : okF A) {b s g n : Nat} (hb : b < 5) (hs : s < 5) (hg : g < A 0 0) (hn : n < 1000) : p_X0_canTrade f (nI b) (nI s) (nI g) (nI n) = some (bI (canT A b s g n)) := by
  have h3 := hk.1.1
  have hp := (hk.2.1 g hg).2.2.2
  have m1 := hk.2.2.2.1 b hb
  have m2 := hk.2.2.2.1 s hs
  have l3 : n * A 3 g ≤ 1000 * 9 := Nat.mul_le_mul (by omega) hp
  unfold p_X0_canTrade canT
  rw [gd_t (inb_nI (by omega) (by decide)), nI_clamp (by omega), canPluck_eq h hk hb hs hg hn]
  simp only [Option.bind_some]
  cases hc : canP A b s g n with
  | false => rw [if_pos ((bI_0 _).mpr rfl)]; rfl
  | true =>
    rw [if_neg (fun z => by cases (bI_0 _).mp z), gd_t (inb_nI hb (by decide)), nI_clamp (by omega), (h.2.2.2.1 b hb).1, (h.2.1 g hg).2.2, pk_mul]
    by_cases h1 : n * A 3 g ≤ A 5 b
    · rw [if_neg (fun z => by have := (nI_ltI (by omega) (by omega)).mp z; omega), gd_t (inb_nI hs (by decide)), nI_clamp (by omega), (h.2.2.2.1 s hs).1, nI_add, decide_eq_true h1]
      by_cases h2 : A 5 s + n * A 3 g ≤ 999
      · rw [if_neg (fun z => by have := (nI_ltI (by omega) (by omega)).mp z; omega), decide_eq_true h2]; rfl
      · rw [if_pos ((nI_ltI (by omega) (by omega)).mpr (by omega)), decide_eq_false h2]; rfl
    · rw [if_pos ((nI_ltI (by omega) (by omega)).mpr (by omega)), decide_eq_false h1]; rfl
