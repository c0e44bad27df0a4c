/-! ===== pure side: trades tried by the class's flock ===== -/
/-- the flock behind a trade that was tried, and whether it was done -/
def canI (A : Fk) (x1 x2 x3 x4 : Int32) : Bool := isT A x1 x2 x3 x4 && canT A x1.toNatClampNeg x2.toNatClampNeg x3.toNatClampNeg x4.toNatClampNeg
def tryT (A : Fk) (x1 x2 x3 x4 : Int32) : Fk := if canI A x1 x2 x3 x4 = true then exch A x1.toNatClampNeg x2.toNatClampNeg x3.toNatClampNeg x4.toNatClampNeg else A
theorem tryTrade_eq {f : Mem} {A : Fk} (h : enc f A) (hk : okF A) (x1 x2 x3 x4 : Int32) : ∃ f', p_X0_tryTrade f x1 x2 x3 x4 = some (bI (canI A x1 x2 x3 x4), f') ∧ enc f' (tryT A x1 x2 x3 x4) ∧ okF (tryT A x1 x2 x3 x4) ∧ (canI A x1 x2 x3 x4 = false → f' = f) := by
  have h3 := hk.1.1
  unfold p_X0_tryTrade tryT canI
  rw [isTrade_eq h]
  simp only [Option.bind_some, bI_0]
  cases ht : isT A x1 x2 x3 x4 with
  | false => exact ⟨f, by simp [bI], by simpa using h, by simpa using hk, fun _ => rfl⟩
  | true =>
    obtain ⟨b, s, g, n, rfl, rfl, rfl, rfl, hb, hs, hbs, hg, hn1, hn⟩ := isT_of hk ht
    rw [canTrade_eq h hk hb hs hg (by omega), nI_clamp (by omega), nI_clamp (by omega), nI_clamp (by omega), nI_clamp (by omega)]
    simp only [Option.bind_some, bI_0, Bool.true_and]
    cases hc : canT A b s g n with
    | false => exact ⟨f, by simp [bI], by simpa using h, by simpa using hk, fun _ => rfl⟩
    | true =>
      have hc2 := hc
      unfold canT canP at hc2
      simp only [Bool.and_eq_true, decide_eq_true_eq] at hc2
      obtain ⟨⟨⟨c1, c2⟩, c3⟩, c4⟩ := hc2
      obtain ⟨f', q1, q2⟩ := exchange_eq h hk hb hs hg c1 c3
      refine ⟨f', ?_, by simpa using q2, by simpa using okF_exch hk hb hs hbs hg hc, fun z => by cases z⟩
      rw [if_neg (by decide), if_neg (by decide), q1]
      rfl
