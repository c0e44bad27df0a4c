/-! ===== pure side: trades drawn, trades planned ===== -/
def rmI (x : Int32) (n : Nat) : Int32 := x - x / nI n * nI n
def canD (A : Fk) (x : Int32) : Bool := decide (1 ≤ A 0 0) && canI A (rmI (x / nI 4) 5) (rmI (x / nI 32) 5) (rmI x (A 0 0)) (nI 1 + rmI (x / nI 256) 9)
def tryD (A : Fk) (x : Int32) : Fk := if 1 ≤ A 0 0 then tryT A (rmI (x / nI 4) 5) (rmI (x / nI 32) 5) (rmI x (A 0 0)) (nI 1 + rmI (x / nI 256) 9) else A
theorem nz_nI {a : Nat} (h : a < 2 ^ 31) (h1 : 1 ≤ a) : nz (nI a) = true := by
  unfold nz
  exact decide_eq_true (fun z => by have := (nI_z h).mp z; omega)
theorem tryDrawn_eq {f : Mem} {A : Fk} (h : enc f A) (hk : okF A) (x : Int32) : ∃ f', p_X0_tryDrawn f x = some (bI (canD A x), f') ∧ enc f' (tryD A x) ∧ okF (tryD A x) := by
  have h3 := hk.1.1
  unfold p_X0_tryDrawn tryD canD
  rw [h.1.1]
  by_cases h1 : 1 ≤ A 0 0
  · rw [if_pos ((nI_leI (by decide) (by omega)).mpr h1), gd_t (nz_nI (by omega) h1), if_pos h1, decide_eq_true h1]
    obtain ⟨f', q1, q2, q3, _⟩ := tryTrade_eq h hk (rmI (x / nI 4) 5) (rmI (x / nI 32) 5) (rmI x (A 0 0)) (nI 1 + rmI (x / nI 256) 9)
    refine ⟨f', ?_, q2, q3⟩
    unfold rmI at q1 ⊢
    rw [q1]
    rfl
  · rw [if_neg (fun z => h1 ((nI_leI (by decide) (by omega)).mp z)), if_neg h1, decide_eq_false h1]
    exact ⟨f, rfl, h, hk⟩
/-- the i-th planned trade is tried -/
def tryP (A : Fk) (i : Nat) : Fk := tryT A (nI (A 7 i)) (nI (A 8 i)) (nI (A 9 i)) (nI (A 10 i))
theorem tryPlanned_eq {f : Mem} {A : Fk} (h : enc f A) (hk : okF A) {i : Nat} (hi : i < A 0 2) : ∃ f', p_X0_tryPlanned f (nI i) = some (bI (canI A (nI (A 7 i)) (nI (A 8 i)) (nI (A 9 i)) (nI (A 10 i))), f') ∧ enc f' (tryP A i) ∧ okF (tryP A i) := by
  have h6 := hk.1.2
  obtain ⟨e1, e2, e3, e4⟩ := h.2.2.2.2 i hi
  unfold p_X0_tryPlanned
  rw [gd_t (inb_nI (by omega) (by decide)), gd_t (inb_nI (by omega) (by decide)), gd_t (inb_nI (by omega) (by decide)), gd_t (inb_nI (by omega) (by decide)), nI_clamp (by omega), e1, e2, e3, e4]
  obtain ⟨f', q1, q2, q3, _⟩ := tryTrade_eq h hk (nI (A 7 i)) (nI (A 8 i)) (nI (A 9 i)) (nI (A 10 i))
  exact ⟨f', by rw [q1]; rfl, q2, q3⟩
theorem tryT_no {A : Fk} {x1 x2 x3 x4 : Int32} {i j : Nat} (h4 : i ≠ 4) (h5 : i ≠ 5) : tryT A x1 x2 x3 x4 i j = A i j := by
  unfold tryT
  split
  · exact exch_45 h4 h5
  · rfl
theorem costOfPlanned_eq {f : Mem} {A : Fk} (h : enc f A) (hk : okF A) {i : Nat} (hi : i < A 0 2) : p_X0_costOfPlanned f (nI i) = some (nI (A 10 i * A 3 (A 9 i))) := by
  have h3 := hk.1.1
  have h6 := hk.1.2
  obtain ⟨e1, e2, e3, e4⟩ := h.2.2.2.2 i hi
  have hg := (hk.2.2.2.2.1 i hi).2.2.2.1
  unfold p_X0_costOfPlanned
  rw [gd_t (inb_nI (by omega) (by decide)), gd_t (inb_nI (by omega) (by decide)), nI_clamp (by omega), e3, e4, gd_t (inb_nI (by omega) (by decide)), nI_clamp (by omega), (h.2.1 _ hg).2.2, pk_mul]
/-- the first trades of the plan are tried, all but one -/
def planTo (A : Fk) (w : Int32) : Nat → Fk
  | 0 => A
  | i + 1 => if nI i = w then planTo A w i else tryP (planTo A w i) i
theorem planTo_no {A : Fk} {w : Int32} {i j : Nat} (h4 : i ≠ 4) (h5 : i ≠ 5) : ∀ n, planTo A w n i j = A i j
  | 0 => rfl
  | n + 1 => by
    unfold planTo
    split
    · exact planTo_no h4 h5 n
    · unfold tryP; rw [tryT_no h4 h5]; exact planTo_no h4 h5 n
theorem followPlanWithout_eq {f : Mem} {A : Fk} (h : enc f A) (hk : okF A) (w : Int32) : ∃ f', p_X0_followPlanWithout f w = some f' ∧ enc f' (planTo A w (A 0 2)) ∧ okF (planTo A w (A 0 2)) := by
  have h6 := hk.1.2
  obtain ⟨x, hx, hQ⟩ := lp_ex (b := p_X0_followPlanWithout_L2 w) (I := fun i z => z.1 = nI i ∧ enc z.2 (planTo A w i) ∧ okF (planTo A w i)) (Q := fun z => enc z (planTo A w (A 0 2)) ∧ okF (planTo A w (A 0 2))) (A 0 2)
    (fun i hi z hz => by
      obtain ⟨z1, z2⟩ := z
      obtain ⟨rfl, e3, e4⟩ := hz
      have e0 : planTo A w i 0 2 = A 0 2 := planTo_no (by decide) (by decide) i
      unfold p_X0_followPlanWithout_L2
      dsimp only at e3 e4 ⊢
      rw [e3.1.2.2, e0, if_neg (nI_ge hi (by omega))]
      by_cases hw : nI i = w
      · rw [if_pos hw]
        refine ⟨_, rfl, nI_add i 1, ?_, ?_⟩
        · unfold planTo; rw [if_pos hw]; exact e3
        · unfold planTo; rw [if_pos hw]; exact e4
      · rw [if_neg hw]
        obtain ⟨f', q1, q2, q3⟩ := tryPlanned_eq e3 e4 (i := i) (by rw [e0]; exact hi)
        rw [q1]
        refine ⟨_, rfl, nI_add i 1, ?_, ?_⟩
        · unfold planTo; rw [if_neg hw]; exact q2
        · unfold planTo; rw [if_neg hw]; exact q3)
    (fun z hz => by
      obtain ⟨z1, z2⟩ := z
      obtain ⟨rfl, e3, e4⟩ := hz
      have e0 : planTo A w (A 0 2) 0 2 = A 0 2 := planTo_no (by decide) (by decide) _
      refine ⟨z2, ?_, e3, e4⟩
      unfold p_X0_followPlanWithout_L2
      dsimp only at e3 e4 ⊢
      rw [e3.1.2.2, e0, if_pos (Int32.le_refl _)]) (i := 0) (s := (nI 0, f)) (by omega) ⟨rfl, h, hk⟩
  refine ⟨x, ?_, hQ.1, hQ.2⟩
  unfold p_X0_followPlanWithout
  rw [hx]
  rfl
theorem feathersOfPlan_eq {f : Mem} {A : Fk} (h : enc f A) (hk : okF A) : p_X0_feathersOfPlan f = some (nI (sumN (A 10) (A 0 2))) := by
  have h6 := hk.1.2
  have key : lp (p_X0_feathersOfPlan_L4 f) (nI 0, nI 0) = some (nI (sumN (A 10) (A 0 2))) := by
    refine lp_for (fun i => (nI (sumN (A 10) i), nI i)) (A 0 2) (fun i hi => ?_) ?_
    · unfold p_X0_feathersOfPlan_L4
      dsimp only
      rw [h.1.2.2, if_neg (nI_ge hi (by omega)), gd_t (inb_nI (by omega) (by decide)), nI_clamp (by omega), (h.2.2.2.2 i hi).2.2.2, nI_add, nI_add]
      rfl
    · unfold p_X0_feathersOfPlan_L4
      dsimp only
      rw [h.1.2.2, if_pos (Int32.le_refl _)]
  unfold p_X0_feathersOfPlan
  rw [key]
  rfl
