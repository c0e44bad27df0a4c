/-! ===== pure side: a flock on a page of the model ===== -/
/-- the place on a page -/
def sl (i j : Nat) : Nat := if i = 0 then (if j = 1 then 34 else 59) else if i ≤ 3 then 3 * (i - 1) + j else if i = 4 then 19 + j else if i = 5 then 9 + j else if i = 6 then 14 + j else 35 + 4 * j + (i - 7)
def vl (i n : Nat) : Int32 := if i = 5 then nI n - nI 20 else nI n
def dm (A : Fk) (i j : Nat) : Prop := (i = 0 ∧ (j = 1 ∨ j = 2)) ∨ (1 ≤ i ∧ i ≤ 3 ∧ j < A 0 0) ∨ (i = 4 ∧ j < 15) ∨ ((i = 5 ∨ i = 6) ∧ j < 5) ∨ (7 ≤ i ∧ i ≤ 10 ∧ j < A 0 2)
def MS (g : Mem) (pg : Nat) (A : Fk) : Prop := g 0 0 = nI (A 0 0) ∧ ∀ i j, dm A i j → g 1 (pg + sl i j) = vl i (A i j)
theorem sl_01 : sl 0 1 = 34 := rfl
theorem sl_02 : sl 0 2 = 59 := rfl
theorem sl_1 (k : Nat) : sl 1 k = 0 + k := rfl
theorem sl_2 (k : Nat) : sl 2 k = 3 + k := rfl
theorem sl_3 (k : Nat) : sl 3 k = 6 + k := rfl
theorem sl_4 (k : Nat) : sl 4 k = 19 + k := rfl
theorem sl_5 (k : Nat) : sl 5 k = 9 + k := rfl
theorem sl_6 (k : Nat) : sl 6 k = 14 + k := rfl
theorem sl_ph {i j : Nat} (h1 : 1 ≤ i) (h3 : i ≤ 3) : sl i j = 3 * (i - 1) + j := by
  unfold sl
  rw [if_neg (by omega), if_pos h3]
theorem sl_pl {i j : Nat} (h : 7 ≤ i) : sl i j = 35 + 4 * j + (i - 7) := by
  unfold sl
  rw [if_neg (by omega), if_neg (by omega), if_neg (by omega), if_neg (by omega), if_neg (by omega)]
theorem sl_key {A : Fk} {i j : Nat} (h : dm A i j) : (i = 0 ∧ j = 1 ∧ sl i j = 34) ∨ (i = 0 ∧ j = 2 ∧ sl i j = 59) ∨ (1 ≤ i ∧ i ≤ 3 ∧ j < A 0 0 ∧ sl i j = 3 * (i - 1) + j) ∨ (i = 4 ∧ j < 15 ∧ sl i j = 19 + j) ∨ (i = 5 ∧ j < 5 ∧ sl i j = 9 + j) ∨ (i = 6 ∧ j < 5 ∧ sl i j = 14 + j) ∨ (7 ≤ i ∧ i ≤ 10 ∧ j < A 0 2 ∧ sl i j = 35 + 4 * j + (i - 7)) := by
  unfold dm at h
  rcases h with ⟨rfl, rfl | rfl⟩ | ⟨q1, q2, q3⟩ | ⟨rfl, q⟩ | ⟨rfl | rfl, q⟩ | ⟨q1, q2, q3⟩
  · exact .inl ⟨rfl, rfl, rfl⟩
  · exact .inr (.inl ⟨rfl, rfl, rfl⟩)
  · exact .inr (.inr (.inl ⟨q1, q2, q3, sl_ph q1 q2⟩))
  · exact .inr (.inr (.inr (.inl ⟨rfl, q, rfl⟩)))
  · exact .inr (.inr (.inr (.inr (.inl ⟨rfl, q, rfl⟩))))
  · exact .inr (.inr (.inr (.inr (.inr (.inl ⟨rfl, q, rfl⟩)))))
  · exact .inr (.inr (.inr (.inr (.inr (.inr ⟨q1, q2, q3, sl_pl q1⟩)))))
theorem sl_lt {A : Fk} (h3 : A 0 0 ≤ 3) (h6 : A 0 2 ≤ 6) {i j : Nat} (h : dm A i j) : sl i j < 60 := by
  have := sl_key h
  omega
theorem sl_inj {A : Fk} (h3 : A 0 0 ≤ 3) (h6 : A 0 2 ≤ 6) {i j a b : Nat} (h : dm A i j) (h2 : dm A a b) (e : sl a b = sl i j) : a = i ∧ b = j := by
  have k1 := sl_key h
  have k2 := sl_key h2
  omega
/-- what does not touch a page -/
def Fr (pg : Nat) (g g' : Mem) : Prop := (∀ i, i ≠ 1 → g' i = g i) ∧ ∀ j, j < pg ∨ pg + 60 ≤ j → g' 1 j = g 1 j
theorem Fr_rfl (pg : Nat) (g : Mem) : Fr pg g g := ⟨fun _ _ => rfl, fun _ _ => rfl⟩
theorem Fr_tr {pg : Nat} {a b c : Mem} (h : Fr pg a b) (k : Fr pg b c) : Fr pg a c := ⟨fun i hi => (k.1 i hi).trans (h.1 i hi), fun j hj => (k.2 j hj).trans (h.2 j hj)⟩
theorem MS_upd {g : Mem} {pg : Nat} {A : Fk} (hk : A 0 0 ≤ 3 ∧ A 0 2 ≤ 6) (h : MS g pg A) {i j n : Nat} (hd : dm A i j) (h02 : ¬ (i = 0 ∧ j = 2)) {v : Int32} (hv : v = vl i n) : MS (mrow 1 (upd (g 1) (pg + sl i j) v) g) pg (fset A i j n) := by
  have m0 : ∀ r, mrow 1 r g 0 = g 0 := fun r => by rw [mrow_at, if_neg (by decide)]
  have m1 : ∀ r, mrow 1 r g 1 = r := fun r => by rw [mrow_at, if_pos rfl]
  have e00 : fset A i j n 0 0 = A 0 0 := by unfold fset; rw [if_neg]; unfold dm at hd; omega
  have e02 : fset A i j n 0 2 = A 0 2 := by unfold fset; rw [if_neg]; omega
  unfold MS
  rw [m0, m1, e00]
  refine ⟨h.1, fun a b hab => ?_⟩
  have hab2 : dm A a b := by unfold dm at hab ⊢; rw [e00, e02] at hab; exact hab
  unfold upd
  by_cases hc : a = i ∧ b = j
  · obtain ⟨rfl, rfl⟩ := hc
    rw [if_pos rfl, hv, fset_at]
  · rw [if_neg (fun z => hc (sl_inj hk.1 hk.2 hd hab2 (by omega))), h.2 a b hab2]
    unfold fset
    rw [if_neg hc]
theorem Fr_upd {g : Mem} {pg k : Nat} {v : Int32} (hk : k < 60) : Fr pg g (mrow 1 (upd (g 1) (pg + k) v) g) := by
  refine ⟨fun i hi => by rw [mrow_at, if_neg hi], fun j hj => ?_⟩
  rw [mrow_at, if_pos rfl]
  unfold upd
  rw [if_neg (by omega)]
theorem MS_of {g g' : Mem} {pg : Nat} {A : Fk} (hk : okF A) (h : MS g pg A) (h0 : g' 0 0 = g 0 0) (h1 : ∀ j, pg ≤ j → j < pg + 60 → g' 1 j = g 1 j) : MS g' pg A :=
  ⟨h0.trans h.1, fun i j hij => by
    have := sl_lt hk.1.1 hk.1.2 hij
    rw [h1 _ (by omega) (by omega)]; exact h.2 i j hij⟩
theorem MS_kind {g : Mem} {pg : Nat} {A : Fk} (h : MS g pg A) {k : Nat} (hg : k < A 0 0) (h3 : A 0 0 ≤ 3) : g 1 (pg + k) = nI (A 1 k) := by
  rw [show pg + k = pg + sl 1 k by simp only [sl_1, sl_2, sl_3, sl_4, sl_5, sl_6, sl_01, sl_02]; omega, h.2 1 k (by unfold dm; omega)]
  rfl
theorem MS_skin {g : Mem} {pg : Nat} {A : Fk} (h : MS g pg A) {k : Nat} (hg : k < A 0 0) (h3 : A 0 0 ≤ 3) : g 1 (pg + 3 + k) = nI (A 2 k) := by
  rw [show pg + 3 + k = pg + sl 2 k by simp only [sl_1, sl_2, sl_3, sl_4, sl_5, sl_6, sl_01, sl_02]; omega, h.2 2 k (by unfold dm; omega)]
  rfl
theorem MS_price {g : Mem} {pg : Nat} {A : Fk} (h : MS g pg A) {k : Nat} (hg : k < A 0 0) (h3 : A 0 0 ≤ 3) : g 1 (pg + 6 + k) = nI (A 3 k) := by
  rw [show pg + 6 + k = pg + sl 3 k by simp only [sl_1, sl_2, sl_3, sl_4, sl_5, sl_6, sl_01, sl_02]; omega, h.2 3 k (by unfold dm; omega)]
  rfl
theorem MS_share {g : Mem} {pg : Nat} {A : Fk} (h : MS g pg A) {k o : Nat} (hg : k < 3) (ho : o < 5) : g 1 (pg + 19 + 5 * k + o) = nI (sh A k o) := by
  rw [show pg + 19 + 5 * k + o = pg + sl 4 (k * 5 + o) by simp only [sl_1, sl_2, sl_3, sl_4, sl_5, sl_6, sl_01, sl_02]; omega, h.2 4 _ (by unfold dm; omega)]
  rfl
theorem MS_money {g : Mem} {pg : Nat} {A : Fk} (h : MS g pg A) {o : Nat} (ho : o < 5) : g 1 (pg + 9 + o) = nI (A 5 o) - nI 20 := by
  rw [show pg + 9 + o = pg + sl 5 o by simp only [sl_1, sl_2, sl_3, sl_4, sl_5, sl_6, sl_01, sl_02]; omega, h.2 5 _ (by unfold dm; omega)]
  rfl
theorem MS_egg {g : Mem} {pg : Nat} {A : Fk} (h : MS g pg A) {o : Nat} (ho : o < 5) : g 1 (pg + 14 + o) = nI (A 6 o) := by
  rw [show pg + 14 + o = pg + sl 6 o by simp only [sl_1, sl_2, sl_3, sl_4, sl_5, sl_6, sl_01, sl_02]; omega, h.2 6 _ (by unfold dm; omega)]
  rfl
theorem MS_week {g : Mem} {pg : Nat} {A : Fk} (h : MS g pg A) : g 1 (pg + 34) = nI (A 0 1) := by
  rw [show pg + 34 = pg + sl 0 1 from rfl, h.2 0 1 (by unfold dm; omega)]
  rfl
theorem MS_many {g : Mem} {pg : Nat} {A : Fk} (h : MS g pg A) : g 1 (pg + 59) = nI (A 0 2) := by
  rw [show pg + 59 = pg + sl 0 2 from rfl, h.2 0 2 (by unfold dm; omega)]
  rfl
theorem MS_plan {g : Mem} {pg : Nat} {A : Fk} (h : MS g pg A) {i j : Nat} (hi : i < A 0 2) (hj : j < 4) : g 1 (pg + 35 + 4 * i + j) = nI (A (7 + j) i) := by
  rw [show pg + 35 + 4 * i + j = pg + sl (7 + j) i by rw [sl_pl (by omega)]; omega, h.2 (7 + j) i (by unfold dm; omega)]
  unfold vl
  rw [if_neg (by omega)]
theorem shareOn_eq {g : Mem} {pg : Nat} {A : Fk} (h : MS g pg A) (hp : pg ≤ 300) {k o : Nat} (hg : k < 3) (ho : o < 5) : p_X7_shareOn g (nI pg) (nI k) (nI o) = some (nI (sh A k o)) := by
  unfold p_X7_shareOn
  rw [pk_mul, nI_add, nI_add, nI_add, gd_t (inb_nI (by omega) (by decide)), nI_clamp (by omega), MS_share h hg ho]
theorem moneyOn_eq {g : Mem} {pg : Nat} {A : Fk} (h : MS g pg A) (hp : pg ≤ 300) {o : Nat} (ho : o < 5) : p_X7_moneyOn g (nI pg) (nI o) = some (nI (A 5 o)) := by
  unfold p_X7_moneyOn
  rw [nI_add, nI_add, gd_t (inb_nI (by omega) (by decide)), nI_clamp (by omega), MS_money h ho, Int32.sub_add_cancel]
theorem feathersOn_eq {g : Mem} {pg : Nat} {A : Fk} (h : MS g pg A) (hp : pg ≤ 300) {k : Nat} (hg : k < 3) : p_X7_feathersOn g (nI pg) (nI k) = some (nI (feath A k)) := by
  have key : lp (p_X7_feathersOn_L5 g (nI pg) (nI k)) (nI 0, nI 0) = some (nI (feath A k)) := by
    refine lp_for (fun i => (nI (sumN (sh A k) i), nI i)) 5 (fun i hi => ?_) ?_
    · unfold p_X7_feathersOn_L5
      dsimp only
      rw [if_neg (nI_ge hi (by decide)), shareOn_eq h hp hg hi]
      simp only [Option.bind_some, nI_add]
      rfl
    · unfold p_X7_feathersOn_L5
      dsimp only
      rw [if_pos (Int32.le_refl _)]
      rfl
  unfold p_X7_feathersOn
  rw [key]
  rfl
