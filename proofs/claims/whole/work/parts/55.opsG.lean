/-! ===== weeks by odds: sums over sets and by how many ===== -/
def bin : Nat → Nat → Nat
  | 0, 0 => 1
  | 0, _ + 1 => 0
  | _ + 1, 0 => 1
  | n + 1, m + 1 => bin n m + bin n (m + 1)
theorem bin_0 : ∀ n, bin n 0 = 1
  | 0 => rfl
  | _ + 1 => rfl
theorem bin_S (n m : Nat) : bin (n + 1) (m + 1) = bin n m + bin n (m + 1) := rfl
theorem bin_gt : ∀ n m, n < m → bin n m = 0
  | 0, 0, h => by omega
  | 0, _ + 1, _ => rfl
  | _ + 1, 0, h => by omega
  | n + 1, m + 1, h => by rw [bin_S, bin_gt n m (by omega), bin_gt n (m + 1) (by omega)]
def Hh (u v : Nat) : Nat → (Nat → Nat) → Nat
  | 0, e => e 0
  | n + 1, e => u * Hh u v n e + v * Hh u v n (fun m => e (m + 1))
theorem sumN_f0 (f : Nat → Nat) : ∀ n, sumN f (n + 1) = f 0 + sumN (fun k => f (k + 1)) n
  | 0 => by simp [sumN]
  | n + 1 => by
    have ih := sumN_f0 f n
    have e1 : sumN f (n + 1 + 1) = sumN f (n + 1) + f (n + 1) := rfl
    have e2 : sumN (fun k => f (k + 1)) (n + 1) = sumN (fun k => f (k + 1)) n + f (n + 1) := rfl
    omega
theorem sumN_pl (f h : Nat → Nat) : ∀ n, sumN (fun k => f k + h k) n = sumN f n + sumN h n
  | 0 => rfl
  | n + 1 => by
    have ih := sumN_pl f h n
    have e1 : sumN (fun k => f k + h k) (n + 1) = sumN (fun k => f k + h k) n + (f n + h n) := rfl
    have e2 : sumN f (n + 1) = sumN f n + f n := rfl
    have e3 : sumN h (n + 1) = sumN h n + h n := rfl
    omega
theorem sumN_ml (c : Nat) (f : Nat → Nat) : ∀ n, c * sumN f n = sumN (fun k => c * f k) n
  | 0 => rfl
  | n + 1 => by
    have ih := sumN_ml c f n
    have e1 : sumN f (n + 1) = sumN f n + f n := rfl
    have e2 : sumN (fun k => c * f k) (n + 1) = sumN (fun k => c * f k) n + c * f n := rfl
    rw [e1, e2, Nat.mul_add, ih]
theorem sumN_cg {f h : Nat → Nat} : ∀ n, (∀ k, k < n → f k = h k) → sumN f n = sumN h n
  | 0, _ => rfl
  | n + 1, hk => by
    have ih := sumN_cg n (fun k hk2 => hk k (by omega))
    have e1 : sumN f (n + 1) = sumN f n + f n := rfl
    have e2 : sumN h (n + 1) = sumN h n + h n := rfl
    rw [e1, e2, ih, hk n (by omega)]
theorem Hh_bin (u v : Nat) : ∀ n e, Hh u v n e = sumN (fun m => bin n m * v ^ m * u ^ (n - m) * e m) (n + 1)
  | 0, e => by simp [Hh, sumN, bin]
  | n + 1, e => by
    have h1 := Hh_bin u v n e
    have h2 := Hh_bin u v n (fun m => e (m + 1))
    have A1 : u * sumN (fun m => bin n m * v ^ m * u ^ (n - m) * e m) (n + 1) = u ^ (n + 1) * e 0 + sumN (fun k => bin n (k + 1) * v ^ (k + 1) * u ^ (n - k) * e (k + 1)) (n + 1) := by
      rw [sumN_f0, Nat.mul_add, sumN_ml]
      have z : sumN (fun k => bin n (k + 1) * v ^ (k + 1) * u ^ (n - k) * e (k + 1)) (n + 1) = sumN (fun k => bin n (k + 1) * v ^ (k + 1) * u ^ (n - k) * e (k + 1)) n + bin n (n + 1) * v ^ (n + 1) * u ^ (n - n) * e (n + 1) := rfl
      rw [z, bin_gt n (n + 1) (by omega), Nat.zero_mul, Nat.zero_mul, Nat.zero_mul, Nat.add_zero]
      congr 1
      · rw [bin_0, Nat.pow_zero, Nat.sub_zero, Nat.pow_succ]
        ac_rfl
      · refine sumN_cg n (fun k hk => ?_)
        rw [show n - k = n - (k + 1) + 1 by omega, Nat.pow_succ u]
        ac_rfl
    have A2 : v * sumN (fun m => bin n m * v ^ m * u ^ (n - m) * e (m + 1)) (n + 1) = sumN (fun k => bin n k * v ^ (k + 1) * u ^ (n - k) * e (k + 1)) (n + 1) := by
      rw [sumN_ml]
      refine sumN_cg (n + 1) (fun k hk => ?_)
      rw [Nat.pow_succ v]
      ac_rfl
    have e0 : Hh u v (n + 1) e = u * Hh u v n e + v * Hh u v n (fun m => e (m + 1)) := rfl
    rw [e0, h1, h2, A1, A2, sumN_f0 (fun m => bin (n + 1) m * v ^ m * u ^ (n + 1 - m) * e m) (n + 1)]
    have T0 : bin (n + 1) 0 * v ^ 0 * u ^ (n + 1 - 0) * e 0 = u ^ (n + 1) * e 0 := by rw [bin_0, Nat.pow_zero, Nat.sub_zero, Nat.one_mul]
    rw [T0, Nat.add_assoc, ← sumN_pl]
    congr 1
    refine sumN_cg (n + 1) (fun k hk => ?_)
    rw [bin_S, show n + 1 - (k + 1) = n - k by omega, Nat.add_mul, Nat.add_mul, Nat.add_mul, Nat.add_comm]
def oddK (u v s : Nat) : Nat → Nat
  | 0 => 1
  | k + 1 => oddK u v s k * (if s / 2 ^ k % 2 = 1 then v else u)
def cntK (s : Nat) : Nat → Nat
  | 0 => 0
  | k + 1 => cntK s k + s / 2 ^ k % 2
theorem oddK_S (u v s k : Nat) : oddK u v s (k + 1) = oddK u v s k * (if s / 2 ^ k % 2 = 1 then v else u) := rfl
theorem cntK_S (s k : Nat) : cntK s (k + 1) = cntK s k + s / 2 ^ k % 2 := rfl
theorem bit_hi {k n s : Nat} (h : k < n) : (2 ^ n + s) / 2 ^ k % 2 = s / 2 ^ k % 2 := by
  obtain ⟨d, rfl⟩ : ∃ d, n = k + (1 + d) := ⟨n - k - 1, by omega⟩
  rw [Nat.pow_add, Nat.mul_add_div (Nat.two_pow_pos k), Nat.pow_add]
  generalize 2 ^ d = x
  generalize s / 2 ^ k = y
  rw [show (2 : Nat) ^ 1 = 2 from rfl]
  omega
theorem oddK_hi {u v n s : Nat} : ∀ k, k ≤ n → oddK u v (2 ^ n + s) k = oddK u v s k
  | 0, _ => rfl
  | k + 1, h => by rw [oddK_S, oddK_S, oddK_hi k (by omega), bit_hi (by omega)]
theorem cntK_hi {n s : Nat} : ∀ k, k ≤ n → cntK (2 ^ n + s) k = cntK s k
  | 0, _ => rfl
  | k + 1, h => by rw [cntK_S, cntK_S, cntK_hi k (by omega), bit_hi (by omega)]
theorem F_H (u v : Nat) : ∀ n e, sumN (fun s => oddK u v s n * e (cntK s n)) (2 ^ n) = Hh u v n e
  | 0, e => by simp [Hh, sumN, oddK, cntK]
  | n + 1, e => by
    have h1 := F_H u v n e
    have h2 := F_H u v n (fun m => e (m + 1))
    have e0 : Hh u v (n + 1) e = u * Hh u v n e + v * Hh u v n (fun m => e (m + 1)) := rfl
    rw [e0, ← h1, ← h2, show 2 ^ (n + 1) = 2 ^ n + 2 ^ n by rw [Nat.pow_succ]; omega, sumN_add, sumN_ml, sumN_ml]
    congr 1
    · refine sumN_cg _ (fun s hs => ?_)
      rw [oddK_S, cntK_S, Nat.div_eq_of_lt hs, if_neg (by decide), Nat.zero_mod, Nat.add_zero]
      ac_rfl
    · refine sumN_cg _ (fun s hs => ?_)
      have hb : (2 ^ n + s) / 2 ^ n % 2 = 1 := by
        rw [Nat.add_div_left s (Nat.two_pow_pos n), Nat.div_eq_of_lt hs]
      rw [oddK_S, cntK_S, oddK_hi n (Nat.le_refl n), cntK_hi n (Nat.le_refl n), hb, if_pos rfl]
      ac_rfl
theorem Hh_le {u v M : Nat} (huv : u + v = 10) : ∀ n e, (∀ m, e m ≤ M) → Hh u v n e ≤ 10 ^ n * M
  | 0, e, h => by
    have := h 0
    simp only [Hh, Nat.pow_zero, Nat.one_mul]
    exact this
  | n + 1, e, h => by
    have h1 := Hh_le huv n e h
    have h2 := Hh_le huv n (fun m => e (m + 1)) (fun m => h (m + 1))
    have e0 : Hh u v (n + 1) e = u * Hh u v n e + v * Hh u v n (fun m => e (m + 1)) := rfl
    have l1 := Nat.mul_le_mul_left u h1
    have l2 := Nat.mul_le_mul_left v h2
    have l3 : u * (10 ^ n * M) + v * (10 ^ n * M) = 10 ^ (n + 1) * M := by
      rw [← Nat.add_mul, huv, Nat.pow_succ, ← Nat.mul_assoc, Nat.mul_comm 10]
    rw [e0, ← l3]
    exact Nat.add_le_add l1 l2
/-! ===== weeks that do not moult leave all but eggs and week ===== -/
def CE (A B : Fk) : Prop := ∀ i j, i ≠ 6 → ¬ (i = 0 ∧ j = 1) → A i j = B i j
theorem CE_rfl (A : Fk) : CE A A := fun _ _ _ _ => rfl
theorem CE_tr {A B C : Fk} (h : CE A B) (k : CE B C) : CE A C := fun i j h1 h2 => (h i j h1 h2).trans (k i j h1 h2)
theorem CE_sym {A B : Fk} (h : CE A B) : CE B A := fun i j h1 h2 => (h i j h1 h2).symm
theorem CE_sh {A B : Fk} (h : CE A B) (g o : Nat) : sh A g o = sh B g o := h 4 _ (by decide) (by omega)
theorem mlt_CE {A B : Fk} (h : CE A B) (g k : Nat) : CE (mlt A g k) (mlt B g k) := fun i j h1 h2 => by
  unfold mlt
  rw [h 1 g (by decide) (by omega), h 4 j (by decide) (by omega), h i j h1 h2]
theorem moult_CE {A B : Fk} (h : CE A B) (g : Nat) : CE (moult A g) (moult B g) := fun i j h1 h2 => by
  have el : lostTo A g 5 = lostTo B g 5 := by
    unfold lostTo
    refine sumN_cg 5 (fun o _ => ?_)
    rw [h 1 g (by decide) (by omega), CE_sh h]
  unfold moult fset
  rw [el, h 2 g (by decide) (by omega), mlt_CE h g 5 4 _ (by decide) (by omega), mlt_CE h g 5 i j h1 h2]
theorem lay_CE (A : Fk) (g : Nat) : CE (lay A g) A := fun _ _ h1 _ => lay_ne h1
theorem weekTo_CE {A B : Fk} (h : CE A B) : ∀ g, CE (weekTo true A g).1 (weekTo true B g).1
  | 0 => h
  | g + 1 => by
    have ih := weekTo_CE h g
    have e : ∀ X : Fk, (weekTo true X (g + 1)).1 = moult (lay (weekTo true X g).1 g) g := fun X => rfl
    rw [e, e]
    exact moult_CE (CE_tr (lay_CE _ g) (CE_tr ih (CE_sym (lay_CE _ g)))) g
theorem fset01_CE (X : Fk) (v : Nat) : CE (fset X 0 1 v) X := fun i j _ h2 => by unfold fset; rw [if_neg h2]
theorem week_CE {A B : Fk} (h : CE A B) : CE (week true A) (week true B) := by
  unfold week
  rw [h 0 0 (by decide) (by omega)]
  exact CE_tr (fset01_CE _ _) (CE_tr (weekTo_CE h _) (CE_sym (fset01_CE _ _)))
theorem weekToF_CE (A : Fk) : ∀ g, CE (weekTo false A g).1 A
  | 0 => CE_rfl A
  | g + 1 => by
    have ih := weekToF_CE A g
    have e : (weekTo false A (g + 1)).1 = lay (weekTo false A g).1 g := rfl
    rw [e]
    exact CE_tr (lay_CE _ g) ih
theorem weekF_CE (A : Fk) : CE (week false A) A := by
  unfold week
  exact CE_tr (fset01_CE _ _) (weekToF_CE A _)
/-- some weeks, of which those that moult are the bits of a number -/
def Wk (A : Fk) (s : Nat) : Nat → Fk
  | 0 => A
  | k + 1 => week (decide (s / 2 ^ k % 2 = 1)) (Wk A s k)
theorem Wk_S (A : Fk) (s k : Nat) : Wk A s (k + 1) = week (decide (s / 2 ^ k % 2 = 1)) (Wk A s k) := rfl
theorem okF_Wk {A : Fk} (hk : okF A) (s : Nat) : ∀ k, okF (Wk A s k)
  | 0 => hk
  | k + 1 => okF_week (okF_Wk hk s k)
theorem Wk_00 (A : Fk) (s : Nat) : ∀ k, Wk A s k 0 0 = A 0 0
  | 0 => rfl
  | k + 1 => by rw [Wk_S, week_00, Wk_00 A s k]
theorem Wk_CE (A : Fk) (s : Nat) : ∀ k, CE (Wk A s k) (weeks true A (cntK s k)).1
  | 0 => CE_rfl A
  | k + 1 => by
    have ih := Wk_CE A s k
    rw [Wk_S, cntK_S]
    by_cases hb : s / 2 ^ k % 2 = 1
    · rw [hb, decide_eq_true rfl]
      exact week_CE ih
    · rw [decide_eq_false hb, show s / 2 ^ k % 2 = 0 by omega, Nat.add_zero]
      exact CE_tr (weekF_CE _) ih
theorem CE_feath {A B : Fk} (h : CE A B) (k : Nat) : feath A k = feath B k := by
  unfold feath
  exact sumN_cg 5 (fun o _ => CE_sh h k o)
theorem CE_egg {A B : Fk} (h : CE A B) (k : Nat) : egg A k = egg B k := egg_congr (fun o => CE_sh h k o) (h 2 k (by decide) (by omega))
