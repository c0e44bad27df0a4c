/-! ===== the calls, one by one: the best row of trades ===== -/
section OPSL
variable {x0 x1 x2 x3 x4 x5 x6 x7 x8 s0 s1 s2 s3 g : Mem} {A : Fk}
/-- what the class has weighed: by rows whose first trade is one of the first i -/
def C1 (A : Fk) (o n K : Nat) (cl : Nat → Nat) (i x : Nat) : Prop := x = r0 A o ∨ (∃ a, a < i ∧ x = r1 A o (cl a)) ∨ (2 ≤ n ∧ ∃ a b, a < i ∧ a ≤ b ∧ b < K ∧ vC (xC A o (cl a)) o (cl b) = true ∧ x = r2 A o (cl a) (cl b))
def C2 (A : Fk) (o n K : Nat) (cl : Nat → Nat) (i j x : Nat) : Prop := (C1 A o n K cl i x ∨ x = r1 A o (cl i)) ∨ ∃ b, i ≤ b ∧ b < j ∧ vC (xC A o (cl i)) o (cl b) = true ∧ x = r2 A o (cl i) (cl b)
/-- the list of codes, fixed -/
def CF (A : Fk) (o K : Nat) (cl : Nat → Nat) (f : Mem) : Prop := f 0 0 = nI K ∧ f 0 1 = nI o ∧ ∀ i, i < K → f 1 i = nI (cl i)
theorem CF_KC {f f' : Mem} {o K : Nat} {cl : Nat → Nat} (h : CF A o K cl f) (k : KC f f') : CF A o K cl f' := ⟨k.2.1.trans h.1, k.2.2.trans h.2.1, fun i hi => by rw [k.1 1 (by decide)]; exact h.2.2 i hi⟩
theorem pairs_eq {fo : Mem} (h0 : enc fo A) (hk : okF A) {o n K i : Nat} {cl : Nat → Nat} (ho : o < 5) (hn : 2 ≤ n) (hK : K ≤ 135) (hi : i < K) (hcl : ∀ i, i < K → cl i < 500 ∧ vC A o (cl i) = true) (hlt : ∀ i j, i < j → j < K → cl i < cl j) {f ff : Mem} {r : Nat} (hf : CF A o K cl f) (hff : enc ff (xC A o (cl i))) (hs : STc f r) (hr : IsMin (C2 A o n K cl i i) r) : ∃ f' ff' r', p_X1_weighPairs f ff fo (nI i) = some (f', ff') ∧ CF A o K cl f' ∧ enc ff' (xC A o (cl i)) ∧ STc f' r' ∧ IsMin (C2 A o n K cl i K) r' := by
  obtain ⟨ci, vi⟩ := hcl i hi
  have okx := okF_xC hk ho ci vi
  have hnei := vC_ne hk ho ci vi
  obtain ⟨x, hx, hQ⟩ := lp_ex (b := p_X1_weighPairs_L2 fo (nI i)) (I := fun j z => i ≤ j → z.1 = nI j ∧ CF A o K cl z.2.1 ∧ enc z.2.2 (xC A o (cl i)) ∧ ∃ r, STc z.2.1 r ∧ IsMin (C2 A o n K cl i j) r) (Q := fun z => CF A o K cl z.1 ∧ enc z.2 (xC A o (cl i)) ∧ ∃ r, STc z.1 r ∧ IsMin (C2 A o n K cl i K) r) K
    (fun j hj z hz => by
      sorry)
    (fun z hz => by
      sorry) (i := i) (s := (nI i, f, ff)) (by omega) (fun _ => ⟨rfl, hf, hff, r, hs, hr⟩)
  sorry
end OPSL
