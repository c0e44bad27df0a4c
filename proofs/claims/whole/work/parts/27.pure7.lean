/-! ===== pure side: trades of the class's flock, on ===== -/
theorem isOwner_eq (x : Int32) : p_X6_isOwner x = some (bI (wi x (nI 0) (nI 4))) := by
  unfold p_X6_isOwner
  rw [isWithin_eq]
  rfl
/-- is a goose of as many -/
def hasG (n : Nat) (x : Int32) : Bool := wi x (nI 0) (nI n - nI 1)
theorem hasG_of {n : Nat} (hn : n < 2 ^ 31) {x : Int32} (h : hasG n x = true) : ∃ g, g < n ∧ x = nI g := by
  unfold hasG at h
  rcases Nat.eq_zero_or_pos n with rfl | hp
  · exfalso
    unfold wi at h
    simp only [Bool.and_eq_true, decide_eq_true_eq] at h
    have := Int32.le_trans h.1 h.2
    exact absurd this (by decide)
  · rw [pk_sub (by omega)] at h
    obtain ⟨j, hj, rfl⟩ := wi_of (by omega) h
    exact ⟨j, by omega, rfl⟩
theorem hasG_nI {n g : Nat} (hn : n < 2 ^ 31) (hg : g < n) : hasG n (nI g) = true := by
  unfold hasG
  rw [pk_sub (by omega), wi_nI (by omega) (by decide) (by omega)]
  simp only [Bool.and_eq_true, decide_eq_true_eq]
  omega
theorem hasGoose_eq {f : Mem} {A : Fk} (h : enc f A) (x : Int32) : p_X0_hasGoose f x = some (bI (hasG (A 0 0) x)) := by
  unfold p_X0_hasGoose hasG
  rw [isWithin_eq, h.1.1]
  rfl
/-- is a trade at all -/
def isT (A : Fk) (x1 x2 x3 x4 : Int32) : Bool := wi x1 (nI 0) (nI 4) && (wi x2 (nI 0) (nI 4) && (!decide (x1 = x2) && (hasG (A 0 0) x3 && wi x4 (nI 1) (nI 9))))
theorem isTrade_eq {f : Mem} {A : Fk} (h : enc f A) (x1 x2 x3 x4 : Int32) : p_X0_isTrade f x1 x2 x3 x4 = some (bI (isT A x1 x2 x3 x4)) := by
  unfold p_X0_isTrade isT
  rw [isOwner_eq, isOwner_eq, hasGoose_eq h, isWithin_eq]
  simp only [Option.bind_some, bI_0]
  cases wi x1 (nI 0) (nI 4) <;> cases wi x2 (nI 0) (nI 4) <;> cases hasG (A 0 0) x3 <;> cases wi x4 (nI 1) (nI 9) <;> by_cases hx : x1 = x2 <;> simp [hx, bI]
theorem isT_of {A : Fk} (hk : okF A) {x1 x2 x3 x4 : Int32} (h : isT A x1 x2 x3 x4 = true) : ∃ b s g n, x1 = nI b ∧ x2 = nI s ∧ x3 = nI g ∧ x4 = nI n ∧ b < 5 ∧ s < 5 ∧ b ≠ s ∧ g < A 0 0 ∧ 1 ≤ n ∧ n ≤ 9 := by
  have h3 := hk.1.1
  unfold isT at h
  simp only [Bool.and_eq_true, Bool.not_eq_true', decide_eq_false_iff_not] at h
  obtain ⟨h1, h2, h4, h5, h6⟩ := h
  obtain ⟨b, hb, rfl⟩ := wi_of (by decide) h1
  obtain ⟨s, hs, rfl⟩ := wi_of (by decide) h2
  obtain ⟨g, hg, rfl⟩ := hasG_of (by omega) h5
  unfold wi at h6
  simp only [Bool.and_eq_true, decide_eq_true_eq] at h6
  obtain ⟨n, hn, rfl⟩ := nI_of (x := x4) (Int32.not_lt.mpr (Int32.le_trans (by decide) h6.1))
  have e1 := (nI_leI (by omega) hn).mp h6.1
  have e2 := (nI_leI hn (by omega)).mp h6.2
  exact ⟨b, s, g, n, rfl, rfl, rfl, rfl, by omega, by omega, fun z => h4 (by rw [z]), hg, e1, e2⟩
theorem fset_ne {A : Fk} {i j v a b : Nat} (h : a ≠ i) : fset A i j v a b = A a b := by unfold fset; rw [if_neg (by omega)]
theorem fset_at (A : Fk) (i j v : Nat) : fset A i j v i j = v := by unfold fset; rw [if_pos ⟨rfl, rfl⟩]
theorem fset_no {A : Fk} {i j v b : Nat} (h : b ≠ j) : fset A i j v i b = A i b := by unfold fset; rw [if_neg (by omega)]
theorem upd_enc {N i j v : Nat} {r : Nat → Int32} {B : Fk} (h : ∀ k, k < N → r k = nI (B i k)) (k : Nat) (hk : k < N) : upd r j (nI v) k = nI (fset B i j v i k) := by
  unfold upd fset
  by_cases hc : k = j
  · rw [if_pos hc, if_pos ⟨rfl, hc⟩]
  · rw [if_neg hc, if_neg (by omega), h k hk]
/-- feathers go from a seller to a buyer -/
def tkF (A : Fk) (s g n : Nat) : Fk := fset A 4 (g * 5 + s) (A 4 (g * 5 + s) - n)
def moveF (A : Fk) (b s g n : Nat) : Fk := fset (tkF A s g n) 4 (g * 5 + b) (tkF A s g n 4 (g * 5 + b) + n)
theorem moveF_ne {A : Fk} {b s g n i j : Nat} (h : i ≠ 4) : moveF A b s g n i j = A i j := by
  unfold moveF tkF
  rw [fset_ne h, fset_ne h]
theorem moveFeathers_eq {f : Mem} {A : Fk} (h : enc f A) (hk : okF A) {b s g n : Nat} (hb : b < 5) (hs : s < 5) (hg : g < A 0 0) (hn : n ≤ sh A g s) : ∃ f', p_X0_moveFeathers f (nI b) (nI s) (nI g) (nI n) = some f' ∧ enc f' (moveF A b s g n) := by
  have h3 := hk.1.1
  have e1 : ∀ k, k < 15 → upd (f 4) (g * 5 + s) (nI (A 4 (g * 5 + s) - n)) k = nI (tkF A s g n 4 k) := upd_enc h.2.2.1
  have E1 : enc (mrow 4 (upd (f 4) (g * 5 + s) (nI (A 4 (g * 5 + s) - n))) f) (tkF A s g n) := enc_row4 h e1 (fun i j hi => fset_ne hi)
  refine ⟨_, ?_, enc_row4 (r := upd (upd (f 4) (g * 5 + s) (nI (A 4 (g * 5 + s) - n))) (g * 5 + b) (nI (tkF A s g n 4 (g * 5 + b) + n))) (B := moveF A b s g n) E1 (upd_enc e1) (fun i j hi => fset_ne hi)⟩
  unfold p_X0_moveFeathers
  rw [pk_mul, nI_add, nI_add, gd_t (inb_nI (by omega) (by decide)), gd_t (inb_nI (by omega) (by decide)), nI_clamp (by omega), nI_clamp (by omega), h.2.2.1 _ (by omega), pk_sub (show n ≤ A 4 (g * 5 + s) from hn)]
  unfold bnd
  dsimp only
  rw [gd_t (inb_nI (by omega) (by decide)), gd_t (inb_nI (by omega) (by decide)), e1 _ (by omega), nI_add]
