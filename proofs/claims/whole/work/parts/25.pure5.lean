/-! ===== pure side: weeks of the class's flock, whole ===== -/
theorem enc_set01 {f : Mem} {A : Fk} {v : Nat} (h : enc f A) : enc (mset 0 1 (nI v) f) (fset A 0 1 v) := by
  have m : ∀ i, i ≠ 0 → mset 0 1 (nI v) f i = f i := fun i hi => by funext j; rw [mset_at, if_neg (by omega)]
  have m0 : ∀ j, j ≠ 1 → mset 0 1 (nI v) f 0 j = f 0 j := fun j hj => by rw [mset_at, if_pos rfl]; unfold upd; rw [if_neg hj]
  have m1 : mset 0 1 (nI v) f 0 1 = nI v := by rw [mset_at, if_pos rfl]; unfold upd; rw [if_pos rfl]
  have e0 : ∀ i j, i ≠ 0 ∨ j ≠ 1 → fset A 0 1 v i j = A i j := fun i j hi => by unfold fset; rw [if_neg (by omega)]
  have e1 : fset A 0 1 v 0 1 = v := by unfold fset; rw [if_pos ⟨rfl, rfl⟩]
  obtain ⟨⟨h1, h2, h3⟩, h4, h5, h6, h7⟩ := h
  unfold enc
  rw [m0 0 (by decide), m0 2 (by decide), m1, e1, e0 0 0 (by decide), e0 0 2 (by decide), m 1 (by decide), m 2 (by decide), m 3 (by decide), m 4 (by decide), m 5 (by decide), m 6 (by decide), m 7 (by decide), m 8 (by decide), m 9 (by decide), m 10 (by decide)]
  simp only [e0 1 _ (.inl (by decide)), e0 2 _ (.inl (by decide)), e0 3 _ (.inl (by decide)), e0 4 _ (.inl (by decide)), e0 5 _ (.inl (by decide)), e0 6 _ (.inl (by decide)), e0 7 _ (.inl (by decide)), e0 8 _ (.inl (by decide)), e0 9 _ (.inl (by decide)), e0 10 _ (.inl (by decide))]
  exact ⟨⟨h1, trivial, h3⟩, h4, h5, h6, h7⟩
theorem okF_set01 {A : Fk} (hk : okF A) (v : Nat) : okF (fset A 0 1 v) := by
  have e0 : ∀ i j, i ≠ 0 ∨ j ≠ 1 → fset A 0 1 v i j = A i j := fun i j hi => by unfold fset; rw [if_neg (by omega)]
  unfold okF
  rw [e0 0 0 (by decide), e0 0 2 (by decide)]
  simp only [e0 1 _ (.inl (by decide)), e0 2 _ (.inl (by decide)), e0 3 _ (.inl (by decide)), e0 4 _ (.inl (by decide)), e0 5 _ (.inl (by decide)), e0 6 _ (.inl (by decide)), e0 7 _ (.inl (by decide)), e0 8 _ (.inl (by decide)), e0 9 _ (.inl (by decide)), e0 10 _ (.inl (by decide))]
  exact hk
theorem okF_week {m : Bool} {A : Fk} (hk : okF A) : okF (week m A) := okF_set01 (okF_weekTo hk _ (Nat.le_refl _)) _
theorem week_00 (m : Bool) (A : Fk) : week m A 0 0 = A 0 0 := by
  unfold week fset
  rw [if_neg (by decide), weekTo_ne (by decide) (by decide)]
theorem passWeek_eq {f : Mem} {A : Fk} (h : enc f A) (hk : okF A) : ∃ f', p_X0_passWeek f = some (nI (laid true A), f') ∧ enc f' (week true A) := by
  have h3 := hk.1.1
  obtain ⟨x, hx, hQ⟩ := lp_ex (b := p_X0_passWeek_L4) (I := fun i z => z.1 = nI (weekTo true A i).2 ∧ z.2.1 = nI i ∧ enc z.2.2 (weekTo true A i).1) (Q := fun z => z.1 = nI (weekTo true A (A 0 0)).2 ∧ enc z.2 (weekTo true A (A 0 0)).1) (A 0 0)
    (fun i hi z hz => by
      obtain ⟨z1, z2, z3⟩ := z
      obtain ⟨rfl, rfl, e3⟩ := hz
      have e0 : (weekTo true A i).1 0 0 = A 0 0 := weekTo_ne (by decide) (by decide) i
      obtain ⟨f', q1, q2⟩ := passWeek_step (x := (weekTo true A i).2) e3 (okF_weekTo hk i (by omega)) (g := i) (by rw [e0]; exact hi)
      exact ⟨_, q1, rfl, rfl, q2⟩)
    (fun z hz => by
      obtain ⟨z1, z2, z3⟩ := z
      obtain ⟨rfl, rfl, e3⟩ := hz
      have e0 : (weekTo true A (A 0 0)).1 0 0 = A 0 0 := weekTo_ne (by decide) (by decide) _
      refine ⟨(nI (weekTo true A (A 0 0)).2, z3), ?_, rfl, e3⟩
      unfold p_X0_passWeek_L4
      dsimp only at e3 ⊢
      rw [e3.1.1, e0, if_pos (Int32.le_refl _)]) (i := 0) (s := (nI 0, nI 0, f)) (by omega) ⟨rfl, rfl, h⟩
  obtain ⟨x1, f4⟩ := x
  obtain ⟨e1, e2⟩ := hQ
  dsimp only at e1 e2
  subst e1
  refine ⟨_, ?_, enc_set01 (v := A 0 1 + 1) e2⟩
  unfold p_X0_passWeek
  rw [hx]
  simp only [Option.bind_some]
  rw [e2.1.2.1, weekTo_ne (by decide) (by decide), nI_add]
  rfl
/-- some weeks, with the eggs laid in them -/
def weeks (m : Bool) (A : Fk) : Nat → Fk × Nat
  | 0 => (A, 0)
  | k + 1 => (week m (weeks m A k).1, (weeks m A k).2 + laid m (weeks m A k).1)
theorem okF_weeks {m : Bool} {A : Fk} (hk : okF A) : ∀ n, okF (weeks m A n).1
  | 0 => hk
  | n + 1 => okF_week (okF_weeks hk n)
theorem passWeeks_eq {f : Mem} {A : Fk} (h : enc f A) (hk : okF A) {n : Nat} (hn : n < 2 ^ 31) : ∃ f', p_X0_passWeeks f (nI n) = some (nI (weeks true A n).2, f') ∧ enc f' (weeks true A n).1 := by
  obtain ⟨x, hx, hQ⟩ := lp_ex (b := p_X0_passWeeks_L4 (nI n)) (I := fun i z => z.1 = nI (weeks true A i).2 ∧ z.2.1 = nI i ∧ enc z.2.2 (weeks true A i).1) (Q := fun z => z.1 = nI (weeks true A n).2 ∧ enc z.2 (weeks true A n).1) n
    (fun i hi z hz => by
      obtain ⟨z1, z2, z3⟩ := z
      obtain ⟨rfl, rfl, e3⟩ := hz
      obtain ⟨f', q1, q2⟩ := passWeek_eq e3 (okF_weeks hk i)
      refine ⟨(nI (weeks true A (i + 1)).2, nI (i + 1), f'), ?_, rfl, rfl, q2⟩
      unfold p_X0_passWeeks_L4
      dsimp only at q1 ⊢
      rw [if_neg (nI_ge hi hn), q1]
      simp only [Option.bind_some, nI_add]
      rfl)
    (fun z hz => by
      obtain ⟨z1, z2, z3⟩ := z
      obtain ⟨rfl, rfl, e3⟩ := hz
      refine ⟨(nI (weeks true A n).2, z3), ?_, rfl, e3⟩
      unfold p_X0_passWeeks_L4
      dsimp only
      rw [if_pos (Int32.le_refl _)]) (i := 0) (s := (nI 0, nI 0, f)) (by omega) ⟨rfl, rfl, h⟩
  obtain ⟨x1, f4⟩ := x
  obtain ⟨e1, e2⟩ := hQ
  dsimp only at e1 e2
  subst e1
  refine ⟨f4, ?_, e2⟩
  unfold p_X0_passWeeks
  rw [hx]
  rfl
