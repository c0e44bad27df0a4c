/-! ===== pure side: a week on a page of the model ===== -/
theorem mlt_S {A : Fk} {k i : Nat} : mlt A k (i + 1) = fset (mlt A k i) 4 (k * 5 + i) (sh A k i - loss (A 1 k) (sh A k i)) := by
  funext a b
  unfold fset mlt sh
  by_cases h : a = 4 ∧ b = k * 5 + i
  · obtain ⟨rfl, rfl⟩ := h
    rw [if_pos (by omega), if_pos ⟨rfl, rfl⟩]
  · rw [if_neg h]
    by_cases h2 : a = 4 ∧ k * 5 ≤ b ∧ b < k * 5 + i
    · rw [if_pos (by omega), if_pos h2]
    · rw [if_neg (by omega), if_neg h2]
theorem moultsOn_step {g : Mem} {pg : Nat} {A : Fk} (hk : okF A) (hp : pg ≤ 300) {k i : Nat} (hg : k < A 0 0) (hi : i < 5) (h : MS g pg (mlt A k i)) : ∃ g', p_X7_moultsOn_L5 (nI pg) (nI k) (nI (lostTo A k i), nI i, g) = some (.inl (nI (lostTo A k (i + 1)), nI (i + 1), g')) ∧ MS g' pg (mlt A k (i + 1)) ∧ Fr pg g g' := by
  have h3 := hk.1.1
  have hkd := (hk.2.1 k hg).1
  have e00 : mlt A k i 0 0 = A 0 0 := mlt_ne (by decide)
  have e02 : mlt A k i 0 2 = A 0 2 := mlt_ne (by decide)
  have e1 : sh (mlt A k i) k i = sh A k i := by unfold sh mlt; rw [if_neg (by omega)]
  have es := (MS_share h (show k < 3 by omega) hi).trans (congrArg nI e1)
  have ek : g 1 (pg + k) = nI (A 1 k) := (MS_kind h (by rw [e00]; exact hg) (by rw [e00]; exact h3)).trans (congrArg nI (mlt_ne (by decide)))
  have hs := sh_le hk hg hi
  have hl := loss_le (A 1 k) (sh A k i)
  refine ⟨mrow 1 (upd (g 1) (pg + 19 + 5 * k + i) (nI (sh A k i - loss (A 1 k) (sh A k i)))) g, ?_, ?_, ?_⟩
  · unfold p_X7_moultsOn_L5
    dsimp only
    rw [if_neg (nI_ge hi (by decide)), shareOn_eq h hp (by omega) hi, e1]
    simp only [Option.bind_some, pk_mul, nI_add]
    rw [gd_t (inb_nI (by omega) (by decide)), nI_clamp (by omega), ek, losesOf_eq hkd hs]
    simp only [Option.bind_some]
    rw [gd_t (inb_nI (by omega) (by decide)), gd_t (inb_nI (by omega) (by decide)), nI_clamp (by omega), es, pk_sub hl, nI_add]
    rfl
  · rw [mlt_S, show pg + 19 + 5 * k + i = pg + sl 4 (k * 5 + i) by simp only [sl_1, sl_2, sl_3, sl_4, sl_5, sl_6, sl_01, sl_02]; omega]
    exact MS_upd ⟨by rw [e00]; exact h3, by rw [e02]; exact hk.1.2⟩ h (by unfold dm; omega) (by omega) rfl
  · rw [show pg + 19 + 5 * k + i = pg + (19 + 5 * k + i) by omega]
    exact Fr_upd (by omega)
theorem moultsOn_eq {g : Mem} {pg : Nat} {A : Fk} (h : MS g pg A) (hk : okF A) (hp : pg ≤ 300) {k : Nat} (hg : k < A 0 0) : ∃ g', p_X7_moultsOn g (nI pg) (nI k) = some g' ∧ MS g' pg (moult A k) ∧ Fr pg g g' := by
  have h3 := hk.1.1
  have hs := (hk.2.1 k hg).2.1
  obtain ⟨x, hx, hQ⟩ := lp_ex (b := p_X7_moultsOn_L5 (nI pg) (nI k)) (I := fun i z => z.1 = nI (lostTo A k i) ∧ z.2.1 = nI i ∧ MS z.2.2 pg (mlt A k i) ∧ Fr pg g z.2.2) (Q := fun z => z.1 = nI (lostTo A k 5) ∧ MS z.2 pg (mlt A k 5) ∧ Fr pg g z.2) 5
    (fun i hi z hz => by
      obtain ⟨z1, z2, z3⟩ := z
      obtain ⟨rfl, rfl, e3, e4⟩ := hz
      obtain ⟨g', q1, q2, q3⟩ := moultsOn_step hk hp hg hi e3
      exact ⟨_, q1, rfl, rfl, q2, Fr_tr e4 q3⟩)
    (fun z hz => by
      obtain ⟨z1, z2, z3⟩ := z
      obtain ⟨rfl, rfl, e3, e4⟩ := hz
      refine ⟨(nI (lostTo A k 5), z3), ?_, rfl, e3, e4⟩
      unfold p_X7_moultsOn_L5
      dsimp only
      rw [if_pos (Int32.le_refl _)]) (i := 0) (s := (nI 0, nI 0, g)) (by omega) ⟨rfl, rfl, by rw [mlt_0]; exact h, Fr_rfl pg g⟩
  obtain ⟨x1, g4⟩ := x
  obtain ⟨e1, e2, e3⟩ := hQ
  dsimp only at e1 e2 e3
  subst e1
  have e00 : mlt A k 5 0 0 = A 0 0 := mlt_ne (by decide)
  have e02 : mlt A k 5 0 2 = A 0 2 := mlt_ne (by decide)
  have es : g4 1 (pg + 3 + k) = nI (A 2 k) := (MS_skin e2 (by rw [e00]; exact hg) (by rw [e00]; exact h3)).trans (congrArg nI (mlt_ne (by decide)))
  have ev : g4 1 (pg + 19 + 5 * k + A 2 k) = nI (mlt A k 5 4 (k * 5 + A 2 k)) := MS_share e2 (show k < 3 by omega) hs
  have l1 := mlt_le hk k 5 (j := k * 5 + A 2 k) (by omega)
  have l2 := lost_le hk hg
  refine ⟨mrow 1 (upd (g4 1) (pg + 19 + 5 * k + A 2 k) (nI (min 99 (mlt A k 5 4 (k * 5 + A 2 k) + (lostTo A k 5 + 1) / 2)))) g4, ?_, ?_, Fr_tr e3 ?_⟩
  · unfold p_X7_moultsOn
    rw [hx]
    simp only [Option.bind_some, pk_mul, nI_add]
    rw [gd_t (inb_nI (by omega) (by decide)), nI_clamp (by omega), es, nI_add, gd_t (inb_nI (by omega) (by decide)), nI_clamp (by omega), ev, pk_div (by omega) (by decide) (by decide), nI_add]
    by_cases hc : mlt A k 5 4 (k * 5 + A 2 k) + (lostTo A k 5 + 1) / 2 ≤ 99
    · rw [if_pos ((nI_leI (by omega) (by omega)).mpr hc), Nat.min_eq_right hc]
      unfold p_X7_moultsOn_B120
      rw [gd_t (inb_nI (by omega) (by decide)), nI_clamp (by omega)]
      rfl
    · rw [if_neg (fun z => hc ((nI_leI (by omega) (by omega)).mp z)), Nat.min_eq_left (by omega)]
      unfold p_X7_moultsOn_B120
      rw [gd_t (inb_nI (by omega) (by decide)), nI_clamp (by omega)]
      rfl
  · unfold moult
    rw [show pg + 19 + 5 * k + A 2 k = pg + sl 4 (k * 5 + A 2 k) by simp only [sl_1, sl_2, sl_3, sl_4, sl_5, sl_6, sl_01, sl_02]; omega]
    exact MS_upd ⟨by rw [e00]; exact h3, by rw [e02]; exact hk.1.2⟩ e2 (by unfold dm; omega) (by omega) rfl
  · rw [show pg + 19 + 5 * k + A 2 k = pg + (19 + 5 * k + A 2 k) by omega]
    exact Fr_upd (by omega)
/-- what is left of a goose in a week, behind its egg -/
theorem weekOn_tail {g : Mem} {pg : Nat} {m : Bool} {B : Fk} (h : MS g pg B) (hk : okF B) (hp : pg ≤ 300) {k : Nat} (hg : k < B 0 0) (x : Int32) : ∃ g', p_X7_weekOn_B49 g (nI pg) (bI m) x (nI k) = some (.inl (x, nI (k + 1), g')) ∧ MS g' pg (if m = true then moult B k else B) ∧ Fr pg g g' := by
  unfold p_X7_weekOn_B49
  cases m with
  | false =>
    rw [if_pos ((bI_0 _).mpr rfl), nI_add]
    exact ⟨g, rfl, by simpa using h, Fr_rfl pg g⟩
  | true =>
    obtain ⟨g', q1, q2, q3⟩ := moultsOn_eq h hk hp hg
    rw [if_neg (fun z => by cases (bI_0 _).mp z), q1, nI_add]
    exact ⟨g', rfl, by simpa using q2, q3⟩
theorem weekOn_step {g : Mem} {pg : Nat} {m : Bool} {B : Fk} (h : MS g pg B) (hk : okF B) (hp : pg ≤ 300) {k x : Nat} (hg : k < B 0 0) : ∃ g', p_X7_weekOn_L5 (nI pg) (bI m) (nI x, nI k, g) = some (.inl (nI (x + if egg B k < 5 then 1 else 0), nI (k + 1), g')) ∧ MS g' pg (if m = true then moult (lay B k) k else lay B k) ∧ Fr pg g g' := by
  have h3 := hk.1.1
  have he := egg_le hk hg
  have hg2 : k < lay B k 0 0 := by rw [lay_ne (by decide)]; exact hg
  unfold p_X7_weekOn_L5
  dsimp only
  rw [h.1, if_neg (nI_ge hg (geese_lt hk)), eggOn_eq h hk hp hg]
  simp only [Option.bind_some, nI_add]
  by_cases hc : egg B k < 5
  · have e1 : eI (egg B k) = nI (egg B k) := by unfold eI; rw [if_pos hc]
    have el : lay B k = fset B 6 (egg B k) (B 6 (egg B k) + 1) := by unfold lay; rw [if_pos hc]
    have hm : MS (mrow 1 (upd (g 1) (pg + 14 + egg B k) (nI (B 6 (egg B k) + 1))) g) pg (lay B k) := by
      rw [el, show pg + 14 + egg B k = pg + sl 6 (egg B k) by simp only [sl_1, sl_2, sl_3, sl_4, sl_5, sl_6, sl_01, sl_02]; omega]
      exact MS_upd hk.1 h (by unfold dm; omega) (by omega) rfl
    obtain ⟨g', q1, q2, q3⟩ := weekOn_tail (m := m) hm (okF_lay hk k) hp hg2 (nI (x + 1))
    have hf : Fr pg g (mrow 1 (upd (g 1) (pg + 14 + egg B k) (nI (B 6 (egg B k) + 1))) g) := by
      rw [show pg + 14 + egg B k = pg + (14 + egg B k) by omega]
      exact Fr_upd (by omega)
    refine ⟨g', ?_, q2, Fr_tr hf q3⟩
    rw [e1, if_neg (nI_m (by omega) (by decide)), nI_add, gd_t (inb_nI (by omega) (by decide)), gd_t (inb_nI (by omega) (by decide)), nI_clamp (by omega), MS_egg h hc, nI_add, if_pos hc]
    unfold bnd
    dsimp only
    exact q1
  · have e0 : lay B k = B := by unfold lay; rw [if_neg hc]
    obtain ⟨g', q1, q2, q3⟩ := weekOn_tail (m := m) h hk hp hg (nI x)
    refine ⟨g', ?_, by rw [e0]; exact q2, q3⟩
    have e1 : eI (egg B k) = -4 := by unfold eI; rw [if_neg hc]
    rw [e1, if_pos rfl, if_neg hc, Nat.add_zero]
    exact q1
theorem weekOn_eq {g : Mem} {pg : Nat} {m : Bool} {A : Fk} (h : MS g pg A) (hk : okF A) (hp : pg ≤ 300) : ∃ g', p_X7_weekOn g (nI pg) (bI m) = some (nI (laid m A), g') ∧ MS g' pg (week m A) ∧ Fr pg g g' := by
  have h3 := hk.1.1
  obtain ⟨x, hx, hQ⟩ := lp_ex (b := p_X7_weekOn_L5 (nI pg) (bI m)) (I := fun i z => z.1 = nI (weekTo m A i).2 ∧ z.2.1 = nI i ∧ MS z.2.2 pg (weekTo m A i).1 ∧ Fr pg g z.2.2) (Q := fun z => z.1 = nI (weekTo m A (A 0 0)).2 ∧ MS z.2 pg (weekTo m A (A 0 0)).1 ∧ Fr pg g z.2) (A 0 0)
    (fun i hi z hz => by
      obtain ⟨z1, z2, z3⟩ := z
      obtain ⟨rfl, rfl, e3, e4⟩ := hz
      have e0 : (weekTo m A i).1 0 0 = A 0 0 := weekTo_ne (by decide) (by decide) i
      obtain ⟨g', q1, q2, q3⟩ := weekOn_step (m := m) (x := (weekTo m A i).2) e3 (okF_weekTo hk i (by omega)) hp (k := i) (by rw [e0]; exact hi)
      exact ⟨_, q1, rfl, rfl, q2, Fr_tr e4 q3⟩)
    (fun z hz => by
      obtain ⟨z1, z2, z3⟩ := z
      obtain ⟨rfl, rfl, e3, e4⟩ := hz
      have e0 : (weekTo m A (A 0 0)).1 0 0 = A 0 0 := weekTo_ne (by decide) (by decide) _
      refine ⟨(nI (weekTo m A (A 0 0)).2, z3), ?_, rfl, e3, e4⟩
      unfold p_X7_weekOn_L5
      dsimp only at e3 ⊢
      rw [e3.1, e0, if_pos (Int32.le_refl _)]) (i := 0) (s := (nI 0, nI 0, g)) (by omega) ⟨rfl, rfl, h, Fr_rfl pg g⟩
  obtain ⟨x1, g4⟩ := x
  obtain ⟨e1, e2, e3⟩ := hQ
  dsimp only at e1 e2 e3
  subst e1
  have e00 : (weekTo m A (A 0 0)).1 0 0 = A 0 0 := weekTo_ne (by decide) (by decide) _
  have e02 : (weekTo m A (A 0 0)).1 0 2 = A 0 2 := weekTo_ne (by decide) (by decide) _
  have e01 : (weekTo m A (A 0 0)).1 0 1 = A 0 1 := weekTo_ne (by decide) (by decide) _
  refine ⟨mrow 1 (upd (g4 1) (pg + 34) (nI (A 0 1 + 1))) g4, ?_, ?_, Fr_tr e3 (Fr_upd (by omega))⟩
  · unfold p_X7_weekOn
    rw [hx]
    simp only [Option.bind_some, nI_add]
    rw [gd_t (inb_nI (by omega) (by decide)), gd_t (inb_nI (by omega) (by decide)), nI_clamp (by omega), MS_week e2, e01, nI_add]
    rfl
  · unfold week
    exact MS_upd (i := 0) (j := 1) ⟨by rw [e00]; exact h3, by rw [e02]; exact hk.1.2⟩ e2 (by unfold dm; omega) (by omega) rfl
