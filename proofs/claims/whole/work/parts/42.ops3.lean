/-! ===== the calls, one by one: the plan, trades, weeks ===== -/
section OPS3
variable {x0 x1 x2 x3 x4 x5 x6 x7 x8 s0 s1 s2 s3 g : Mem} {A : Fk}
theorem mset_ne {i j a : Nat} {v : Int32} {f : Mem} (h : a ≠ i) : mset i j v f a = f a := by rw [mset_at, if_neg h]
theorem mset_no {i j b : Nat} {v : Int32} {f : Mem} (h : b ≠ j) : mset i j v f i b = f i b := by rw [mset_at, if_pos rfl]; exact pk_un h
theorem mset_s {i j : Nat} {v : Int32} {f : Mem} : mset i j v f i j = v := by rw [mset_at, if_pos rfl]; exact pk_us
theorem mrow_ne {i a : Nat} {r : Nat → Int32} {f : Mem} (h : a ≠ i) : mrow i r f a = f a := by rw [mrow_at, if_neg h]
theorem mrow_s {i : Nat} {r : Nat → Int32} {f : Mem} : mrow i r f i = r := by rw [mrow_at, if_pos rfl]
/-- a trade more in the plan -/
def plusF (A : Fk) (v : Nat → Nat) : Fk := fun i j => if i = 0 ∧ j = 2 then A 0 2 + 1 else if 7 ≤ i ∧ i ≤ 10 ∧ j = A 0 2 then v (i - 7) else A i j
theorem plusF_no {A : Fk} {v : Nat → Nat} {i j : Nat} (h : i < 7) (h2 : i ≠ 0 ∨ j ≠ 2) : plusF A v i j = A i j := by
  unfold plusF
  rw [if_neg (by omega), if_neg (by omega)]
theorem plusF_02 {A : Fk} {v : Nat → Nat} : plusF A v 0 2 = A 0 2 + 1 := by unfold plusF; rw [if_pos ⟨rfl, rfl⟩]
theorem plusF_old {A : Fk} {v : Nat → Nat} {i j : Nat} (h : 7 ≤ i) (h2 : j < A 0 2) : plusF A v i j = A i j := by
  unfold plusF
  rw [if_neg (by omega), if_neg (by omega)]
theorem plusF_new {A : Fk} {v : Nat → Nat} {i : Nat} (h : i < 4) : plusF A v (7 + i) (A 0 2) = v i := by
  unfold plusF
  rw [if_neg (by omega), if_pos (by omega), show 7 + i - 7 = i by omega]
theorem okF_plus {A : Fk} (hk : okF A) {v : Nat → Nat} (h6 : A 0 2 < 6) (h0 : v 0 < 5) (h1 : v 1 < 5) (h01 : v 0 ≠ v 1) (h2 : v 2 < A 0 0) (h3 : 1 ≤ v 3) (h4 : v 3 ≤ 9) : okF (plusF A v) := by
  obtain ⟨q1, q2, q4, q5, q6, q7⟩ := hk
  unfold okF
  rw [plusF_no (i := 0) (j := 0) (by decide) (.inr (by decide)), plusF_02]
  refine ⟨⟨q1.1, h6⟩, fun k hk => ?_, fun k hk => ?_, fun k hk => ?_, fun k hk => ?_, fun k hk hk2 => ?_⟩
  · rw [plusF_no (by decide) (.inl (by decide)), plusF_no (by decide) (.inl (by decide)), plusF_no (by decide) (.inl (by decide))]; exact q2 k hk
  · rw [plusF_no (by decide) (.inl (by decide))]; exact q4 k hk
  · rw [plusF_no (by decide) (.inl (by decide))]; exact q5 k hk
  · rcases Nat.lt_or_ge k (A 0 2) with hc | hc
    · rw [plusF_old (by decide) hc, plusF_old (by decide) hc, plusF_old (by decide) hc, plusF_old (by decide) hc]; exact q6 k hc
    · have : k = A 0 2 := by omega
      subst this
      have e7 := plusF_new (A := A) (v := v) (i := 0) (by decide)
      have e8 := plusF_new (A := A) (v := v) (i := 1) (by decide)
      have e9 := plusF_new (A := A) (v := v) (i := 2) (by decide)
      have e10 := plusF_new (A := A) (v := v) (i := 3) (by decide)
      simp only [Nat.reduceAdd] at e7 e8 e9 e10
      rw [e7, e8, e9, e10]
      exact ⟨h0, h1, h01, h2, h3, h4⟩
  · rw [plusF_no (by decide) (.inl (by decide))]; exact q7 k hk hk2
theorem MS_plus {g g' : Mem} {A : Fk} (hk : okF A) (h : MS g 0 A) {v : Nat → Nat} (h0 : g' 0 0 = g 0 0) (hr : ∀ j, j < 4 → g' 1 (35 + 4 * A 0 2 + j) = nI (v j)) (h59 : g' 1 59 = nI (A 0 2 + 1)) (ho : ∀ j, j < 35 + 4 * A 0 2 → g' 1 j = g 1 j) : MS g' 0 (plusF A v) := by
  refine ⟨by rw [h0, plusF_no (by decide) (.inr (by decide))]; exact h.1, fun i j hij => ?_⟩
  rw [Nat.zero_add]
  unfold dm at hij
  rw [plusF_02, plusF_no (i := 0) (j := 0) (by decide) (.inr (by decide))] at hij
  by_cases c1 : i = 0 ∧ j = 2
  · obtain ⟨rfl, rfl⟩ := c1
    rw [plusF_02]
    exact h59
  · by_cases c2 : 7 ≤ i ∧ j = A 0 2
    · obtain ⟨c2, rfl⟩ := c2
      have e : sl i (A 0 2) = 35 + 4 * A 0 2 + (i - 7) := sl_pl c2
      rw [e, hr _ (by omega)]
      have := plusF_new (A := A) (v := v) (i := i - 7) (by omega)
      rw [show 7 + (i - 7) = i by omega] at this
      rw [this]
      unfold vl
      rw [if_neg (by omega)]
    · have e : plusF A v i j = A i j := by
        unfold plusF
        rw [if_neg c1, if_neg (by omega)]
      have hd : dm A i j := by unfold dm; omega
      have hl : sl i j < 35 + 4 * A 0 2 := by
        have := sl_key hd
        have := hk.1
        omega
      have := h.2 i j hd
      rw [Nat.zero_add] at this
      rw [e, ho _ hl, this]
theorem enc_plus {f f' : Mem} {A : Fk} {v : Nat → Nat} (h : enc f A) (h02 : f' 0 2 = nI (A 0 2 + 1)) (h0 : f' 0 0 = f 0 0) (h01 : f' 0 1 = f 0 1) (hi : ∀ i, 1 ≤ i → i < 7 → f' i = f i) (hp : ∀ i, i < 4 → f' (7 + i) = upd (f (7 + i)) (A 0 2) (nI (v i))) : enc f' (plusF A v) := by
  obtain ⟨⟨h1, h2, h3⟩, h4, h5, h6, h7⟩ := h
  have key : ∀ i, i < 4 → ∀ k, k < A 0 2 + 1 → (k < A 0 2 → f (7 + i) k = nI (A (7 + i) k)) → f' (7 + i) k = nI (plusF A v (7 + i) k) := fun i hi4 k hk hf => by
    rcases Nat.lt_or_ge k (A 0 2) with hc | hc
    · rw [hp i hi4, pk_un (by omega), plusF_old (by omega) hc, hf hc]
    · have : k = A 0 2 := by omega
      subst this
      rw [hp i hi4, pk_us, plusF_new hi4]
  refine ⟨⟨by rw [h0, plusF_no (by decide) (.inr (by decide))]; exact h1, by rw [h01, plusF_no (by decide) (.inr (by decide))]; exact h2, by rw [plusF_02]; exact h02⟩, fun k hk => ?_, fun k hk => ?_, fun k hk => ?_, fun k hk => ?_⟩
  · rw [plusF_no (by decide) (.inr (by decide))] at hk
    rw [plusF_no (by decide) (.inl (by decide)), plusF_no (by decide) (.inl (by decide)), plusF_no (by decide) (.inl (by decide)), hi 1 (by decide) (by decide), hi 2 (by decide) (by decide), hi 3 (by decide) (by decide)]
    exact h4 k hk
  · rw [plusF_no (by decide) (.inl (by decide)), hi 4 (by decide) (by decide)]
    exact h5 k hk
  · rw [plusF_no (by decide) (.inl (by decide)), plusF_no (by decide) (.inl (by decide)), hi 5 (by decide) (by decide), hi 6 (by decide) (by decide)]
    exact h6 k hk
  · rw [plusF_02] at hk
    exact ⟨key 0 (by decide) k hk (fun z => (h7 k z).1), key 1 (by decide) k hk (fun z => (h7 k z).2.1), key 2 (by decide) k hk (fun z => (h7 k z).2.2.1), key 3 (by decide) k hk (fun z => (h7 k z).2.2.2)⟩
theorem op_plan (R : Rel x0 x1 x3 x4 x5 x6 x8 s0 s1 s2 s3 g) (a b c d : Int32) : ∃ r x1' g', p_X6_plan x0 x1 a b c d = some (r, x1') ∧ p_X7_plan g a b c d = some (r, g') ∧ Rel x0 x1' x3 x4 x5 x6 x8 s0 s1 s2 s3 g' := by
  have R0 := R
  obtain ⟨A, h, hk, hm, hR⟩ := R
  have h6 := hk.1.2
  unfold p_X6_plan p_X7_plan
  rw [isTrade_eq h, isTradeM_eq hm.1]
  simp only [Option.bind_some, bI_0]
  cases hT : isT A a b c d with
  | false => exact ⟨-1, x1, g, rfl, rfl, R0⟩
  | true =>
    obtain ⟨bb, ss, gg, nn, rfl, rfl, rfl, rfl, hb, hs, hbs, hg, hn1, hn⟩ := isT_of hk hT
    have e59 : (nI 59).toNatClampNeg = 59 := by decide
    rw [ite_tf, ite_tf, e59, MZ_many hm]
    unfold p_X0_addToPlan
    rw [h.1.2.2]
    by_cases hc : A 0 2 < 6
    · rw [if_pos ((nI_ltI (by omega) (by decide)).mpr hc), if_neg (fun z => by have := (nI_eq (by omega) (by decide)).mp z; omega), pk_mul]
      simp only [nI_add]
      have i6 : inb (nI (A 0 2)) 6 = true := inb_nI hc (by decide)
      have i59 : inb (nI 59) 360 = true := by decide
      rw [gd_t i6, gd_t i59, gd_t i59, gd_t (inb_nI (show 35 + 4 * A 0 2 < 360 by omega) (by decide)), nI_clamp (show A 0 2 < 2 ^ 31 by omega), nI_clamp (show 35 + 4 * A 0 2 < 2 ^ 31 by omega), nI_clamp (show 35 + 4 * A 0 2 + 1 < 2 ^ 31 by omega), nI_clamp (show 35 + 4 * A 0 2 + 2 < 2 ^ 31 by omega), nI_clamp (show 35 + 4 * A 0 2 + 3 < 2 ^ 31 by omega)]
      unfold bnd
      dsimp only
      rw [gd_t i6, gd_t i6, gd_t i6, gd_t (inb_nI (show 35 + 4 * A 0 2 + 1 < 360 by omega) (by decide)), gd_t (inb_nI (show 35 + 4 * A 0 2 + 2 < 360 by omega) (by decide)), gd_t (inb_nI (show 35 + 4 * A 0 2 + 3 < 360 by omega) (by decide)), gd_t i59, gd_t i59, gd_t i59]
      simp only [Option.bind_some]
      rw [if_neg (show ¬ nI 1 = 0 by decide), mset_s, pk_us, pk_un (show 59 ≠ 35 + 4 * A 0 2 + 3 by omega), pk_un (show 59 ≠ 35 + 4 * A 0 2 + 2 by omega), pk_un (show 59 ≠ 35 + 4 * A 0 2 + 1 by omega), pk_un (show 59 ≠ 35 + 4 * A 0 2 by omega), MZ_many hm, nI_add]
      refine ⟨nI (A 0 2 + 1), _, _, rfl, rfl, ⟨plusF A (fun j => if j = 0 then bb else if j = 1 then ss else if j = 2 then gg else nn), enc_plus h mset_s ?_ ?_ ?_ ?_, okF_plus hk hc hb hs hbs hg hn1 hn, MS_plus hk hm ?_ ?_ ?_ ?_, ?_⟩⟩
      · rw [mset_no (by decide), mrow_ne (by decide), mrow_ne (by decide), mrow_ne (by decide), mrow_ne (by decide)]
      · rw [mset_no (by decide), mrow_ne (by decide), mrow_ne (by decide), mrow_ne (by decide), mrow_ne (by decide)]
      · intro i h1 h7
        rw [mset_ne (by omega), mrow_ne (by omega), mrow_ne (by omega), mrow_ne (by omega), mrow_ne (by omega)]
      · intro i h4
        rcases (show i = 0 ∨ i = 1 ∨ i = 2 ∨ i = 3 by omega) with rfl | rfl | rfl | rfl
        · rw [mset_ne (by decide), mrow_ne (by decide), mrow_ne (by decide), mrow_ne (by decide), mrow_s]; rfl
        · rw [mset_ne (by decide), mrow_ne (by decide), mrow_ne (by decide), mrow_s]; rfl
        · rw [mset_ne (by decide), mrow_ne (by decide), mrow_s]; rfl
        · rw [mset_ne (by decide), mrow_s]; rfl
      · rw [mrow_ne (by decide), mrow_ne (by decide), mrow_ne (by decide), mrow_ne (by decide), mrow_ne (by decide)]
      · intro j hj
        rw [mrow_s]
        rcases (show j = 0 ∨ j = 1 ∨ j = 2 ∨ j = 3 by omega) with rfl | rfl | rfl | rfl
        · rw [pk_un (by omega), pk_un (by omega), pk_un (by omega), pk_un (by omega), Nat.add_zero, pk_us]; rfl
        · rw [pk_un (by omega), pk_un (by omega), pk_un (by omega), pk_us]; rfl
        · rw [pk_un (by omega), pk_un (by omega), pk_us]; rfl
        · rw [pk_un (by omega), pk_us]; rfl
      · rw [mrow_s, pk_us]
      · intro j hj
        rw [mrow_s, pk_un (by omega), pk_un (by omega), pk_un (by omega), pk_un (by omega), pk_un (by omega)]
      · rw [plusF_no (by decide) (.inr (by decide))]
        exact Rest_Keep0 hR ⟨fun j hj => by rw [mrow_ne (by decide), mrow_ne (by decide), mrow_ne (by decide), mrow_ne (by decide), mrow_ne (by decide)], fun j h1 h2 => by rw [mrow_s, pk_un (by omega), pk_un (by omega), pk_un (by omega), pk_un (by omega), pk_un (by omega)], fun i h1 h2 => by rw [mrow_ne (by omega), mrow_ne (by omega), mrow_ne (by omega), mrow_ne (by omega), mrow_ne (by omega)]⟩
    · rw [if_neg (fun z => hc ((nI_ltI (by omega) (by decide)).mp z)), if_pos (by rw [show A 0 2 = 6 by omega]), gd_t (by decide)]
      exact ⟨-3, x1, g, rfl, rfl, R0⟩
theorem enc_cut {f : Mem} {A : Fk} (h : enc f A) {n : Nat} (hn : n ≤ A 0 2) : enc (mset 0 2 (nI n) f) (fset A 0 2 n) := by
  have m : ∀ i, i ≠ 0 → mset 0 2 (nI n) f i = f i := fun i hi => by funext j; rw [mset_at, if_neg (by omega)]
  have m0 : ∀ j, j ≠ 2 → mset 0 2 (nI n) f 0 j = f 0 j := fun j hj => by rw [mset_at, if_pos rfl]; unfold upd; rw [if_neg hj]
  have m1 : mset 0 2 (nI n) f 0 2 = nI n := by rw [mset_at, if_pos rfl]; unfold upd; rw [if_pos rfl]
  have e0 : ∀ i j, i ≠ 0 ∨ j ≠ 2 → fset A 0 2 n i j = A i j := fun i j hi => by unfold fset; rw [if_neg (by omega)]
  have e1 : fset A 0 2 n 0 2 = n := by unfold fset; rw [if_pos ⟨rfl, rfl⟩]
  obtain ⟨⟨h1, h2, h3⟩, h4, h5, h6, h7⟩ := h
  unfold enc
  rw [m0 0 (by decide), m0 1 (by decide), m1, e1, e0 0 0 (by decide), e0 0 1 (by decide), m 1 (by decide), m 2 (by decide), m 3 (by decide), m 4 (by decide), m 5 (by decide), m 6 (by decide), m 7 (by decide), m 8 (by decide), m 9 (by decide), m 10 (by decide)]
  simp only [e0 1 _ (.inl (by decide)), e0 2 _ (.inl (by decide)), e0 3 _ (.inl (by decide)), e0 4 _ (.inl (by decide)), e0 5 _ (.inl (by decide)), e0 6 _ (.inl (by decide)), e0 7 _ (.inl (by decide)), e0 8 _ (.inl (by decide)), e0 9 _ (.inl (by decide)), e0 10 _ (.inl (by decide))]
  exact ⟨⟨h1, h2, trivial⟩, h4, h5, h6, fun k hk => h7 k (by omega)⟩
theorem okF_cut {A : Fk} (hk : okF A) {n : Nat} (hn : n ≤ A 0 2) : okF (fset A 0 2 n) := by
  have e0 : ∀ i j, i ≠ 0 ∨ j ≠ 2 → fset A 0 2 n i j = A i j := fun i j hi => by unfold fset; rw [if_neg (by omega)]
  have e1 : fset A 0 2 n 0 2 = n := by unfold fset; rw [if_pos ⟨rfl, rfl⟩]
  obtain ⟨h1, h2, h4, h5, h6, h7⟩ := hk
  unfold okF
  rw [e0 0 0 (by decide), e1]
  simp only [e0 1 _ (.inl (by decide)), e0 2 _ (.inl (by decide)), e0 3 _ (.inl (by decide)), e0 4 _ (.inl (by decide)), e0 5 _ (.inl (by decide)), e0 7 _ (.inl (by decide)), e0 8 _ (.inl (by decide)), e0 9 _ (.inl (by decide)), e0 10 _ (.inl (by decide))]
  exact ⟨⟨h1.1, by omega⟩, h2, h4, h5, fun k hk => h6 k (by omega), h7⟩
theorem MS_cut {g : Mem} {A : Fk} (hk : okF A) (h : MS g 0 A) {n : Nat} (hn : n ≤ A 0 2) : MS (mrow 1 (upd (g 1) 59 (nI n)) g) 0 (fset A 0 2 n) := by
  have e0 : ∀ i j, i ≠ 0 ∨ j ≠ 2 → fset A 0 2 n i j = A i j := fun i j hi => by unfold fset; rw [if_neg (by omega)]
  have e1 : fset A 0 2 n 0 2 = n := by unfold fset; rw [if_pos ⟨rfl, rfl⟩]
  refine ⟨by rw [mrow_at, if_neg (by decide), e0 0 0 (.inr (by decide))]; exact h.1, fun i j hij => ?_⟩
  have hd : dm A i j := by unfold dm at hij ⊢; rw [e1, e0 0 0 (.inr (by decide))] at hij; omega
  rw [mrow_at, if_pos rfl, Nat.zero_add]
  unfold upd
  by_cases hc : i = 0 ∧ j = 2
  · obtain ⟨rfl, rfl⟩ := hc
    rw [if_pos (show sl 0 2 = 59 from rfl), e1]
    rfl
  · have hne : sl i j ≠ 59 := fun z => hc (sl_inj hk.1.1 hk.1.2 (i := 0) (j := 2) (by unfold dm; omega) hd z)
    have := h.2 i j hd
    rw [Nat.zero_add] at this
    rw [if_neg hne, this, e0 i j (by omega)]
theorem op_cut (R : Rel x0 x1 x3 x4 x5 x6 x8 s0 s1 s2 s3 g) (a : Int32) : ∃ r x1' g', p_X6_cut x0 x1 a = some (r, x1') ∧ p_X7_cut g a = some (r, g') ∧ Rel x0 x1' x3 x4 x5 x6 x8 s0 s1 s2 s3 g' := by
  have R0 := R
  obtain ⟨A, h, hk, hm, hR⟩ := R
  have h6 := hk.1.2
  have e59 : (nI 59).toNatClampNeg = 59 := by decide
  unfold p_X6_cut p_X7_cut
  rw [isWithin_eq, gd_t (by decide), e59, MZ_many hm, h.1.2.2, in_0]
  simp only [Option.bind_some, bI_0]
  cases hW : wi a (nI 0) (nI (A 0 2)) with
  | false => exact ⟨-1, x1, g, rfl, by rw [show bI false = nI 0 from rfl, puts_0]; rfl, R0⟩
  | true =>
    obtain ⟨n, -, hn, rfl⟩ := wi_in (by decide) (by omega) hW
    refine ⟨nI (A 0 2), mset 0 2 (nI n) x1, mrow 1 (upd (g 1) 59 (nI n)) g, rfl, ?_, Rel_now (B := fset A 0 2 n) hR (Fr_Keep0 (q := 0) (by have := Fr_upd (g := g) (pg := 0) (k := 59) (v := nI n) (by omega); rwa [Nat.zero_add] at this) (.inl rfl)) (enc_cut h hn) (okF_cut hk hn) (MS_cut hk hm hn) (fset_no (by decide))⟩
    rw [show bI true = nI 1 from rfl, puts_1 (by omega), MZ_many hm, add_0, sub_0]
    rfl
theorem op_buy (R : Rel x0 x1 x3 x4 x5 x6 x8 s0 s1 s2 s3 g) (a b c d : Int32) : ∃ r x1' g', p_X6_buy x0 x1 a b c d = some (r, x1') ∧ p_X7_buy g a b c d = some (r, g') ∧ Rel x0 x1' x3 x4 x5 x6 x8 s0 s1 s2 s3 g' := by
  have R0 := R
  obtain ⟨A, h, hk, hm, hR⟩ := R
  unfold p_X6_buy p_X7_buy p_X7_buys
  rw [isTrade_eq h, isTradeM_eq hm.1]
  simp only [Option.bind_some, bI_0]
  cases hT : isT A a b c d with
  | false => exact ⟨-1, x1, g, rfl, rfl, R0⟩
  | true =>
    obtain ⟨bb, ss, gg, nn, rfl, rfl, rfl, rfl, hb, hs, hbs, hg, hn1, hn⟩ := isT_of hk hT
    obtain ⟨g', q1, q2, q3⟩ := buysOn_eq hm hk (by decide) hb hs hg (show nn < 1000 by omega)
    rw [canTrade_eq h hk hb hs hg (by omega), q1, if_neg (by decide), if_neg (by decide)]
    simp only [Option.bind_some, bI_0]
    cases hc : canT A bb ss gg nn with
    | false =>
      rw [hc, if_neg (by decide)] at q2
      exact ⟨-2, x1, g', rfl, rfl, Rel_now (B := A) hR (Fr_Keep0 q3 (.inl rfl)) h hk q2 rfl⟩
    | true =>
      rw [hc, if_pos rfl] at q2
      have hc2 := hc
      unfold canT canP at hc2
      simp only [Bool.and_eq_true, decide_eq_true_eq] at hc2
      obtain ⟨⟨⟨c1, c2⟩, c3⟩, c4⟩ := hc2
      obtain ⟨f', r1, r2⟩ := exchange_eq h hk hb hs hg c1 c3
      refine ⟨nI (exch A bb ss gg nn 5 bb), f', g', ?_, ?_, Rel_now (B := exch A bb ss gg nn) hR (Fr_Keep0 q3 (.inl rfl)) r2 (okF_exch hk hb hs hbs hg hc) q2 (exch_45 (by decide) (by decide))⟩
      · rw [if_neg (by decide), r1]
        simp only [Option.bind_some]
        rw [gd_t (inb_nI (by omega) (by decide)), nI_clamp (by omega), (r2.2.2.2.1 bb hb).1]
      · rw [if_neg (by decide), moneyOn_eq q2 (by decide) hb]
        rfl
theorem okF_moveF {A : Fk} (hk : okF A) {b s g n : Nat} (hb : b < 5) (hs : s < 5) (hbs : b ≠ s) (hg : g < A 0 0) (hc : canP A b s g n = true) : okF (moveF A b s g n) := by
  have h3 := hk.1.1
  unfold canP at hc
  simp only [Bool.and_eq_true, decide_eq_true_eq] at hc
  obtain ⟨c1, c2⟩ := hc
  obtain ⟨h1, h2, h4, h5, h6, h7⟩ := hk
  have e : ∀ i j, i ≠ 4 → moveF A b s g n i j = A i j := fun i j h4 => moveF_ne h4
  unfold okF
  simp only [e 0 _ (by decide), e 1 _ (by decide), e 2 _ (by decide), e 3 _ (by decide), e 5 _ (by decide), e 7 _ (by decide), e 8 _ (by decide), e 9 _ (by decide), e 10 _ (by decide)]
  refine ⟨h1, h2, fun k hk2 => ?_, h5, h6, fun k hk2 hk3 => ?_⟩
  · have := h4 k hk2
    unfold sh at c1 c2
    unfold moveF tkF
    by_cases kb : k = g * 5 + b
    · subst kb; rw [fset_at, fset_no (by omega)]; omega
    · rw [fset_no kb]
      by_cases ks : k = g * 5 + s
      · subst ks; rw [fset_at]; omega
      · rw [fset_no ks]; exact this
  · have := h7 k hk2 hk3
    unfold moveF tkF
    rw [fset_no (by omega), fset_no (by omega)]; exact this
theorem op_pluck (R : Rel x0 x1 x3 x4 x5 x6 x8 s0 s1 s2 s3 g) (a b c d : Int32) : ∃ r x1' g', p_X6_pluck x0 x1 a b c d = some (r, x1') ∧ p_X7_pluck g a b c d = some (r, g') ∧ Rel x0 x1' x3 x4 x5 x6 x8 s0 s1 s2 s3 g' := by
  have R0 := R
  obtain ⟨A, h, hk, hm, hR⟩ := R
  have h3 := hk.1.1
  unfold p_X6_pluck p_X7_pluck
  rw [isTrade_eq h, isTradeM_eq hm.1]
  simp only [Option.bind_some, bI_0]
  cases hT : isT A a b c d with
  | false => exact ⟨-1, x1, g, rfl, rfl, R0⟩
  | true =>
    obtain ⟨bb, ss, gg, nn, rfl, rfl, rfl, rfl, hb, hs, hbs, hg, hn1, hn⟩ := isT_of hk hT
    obtain ⟨g', q1, q2, q3⟩ := plucksOn_eq hm hk (by decide) hb hs hg (show nn < 1000 by omega)
    rw [canPluck_eq h hk hb hs hg (by omega), q1, if_neg (by decide), if_neg (by decide)]
    simp only [Option.bind_some, bI_0]
    cases hc : canP A bb ss gg nn with
    | false =>
      rw [hc, if_neg (by decide)] at q2
      exact ⟨-2, x1, g', rfl, rfl, Rel_now (B := A) hR (Fr_Keep0 q3 (.inl rfl)) h hk q2 rfl⟩
    | true =>
      rw [hc, if_pos rfl] at q2
      have hc2 := hc
      unfold canP at hc2
      simp only [Bool.and_eq_true, decide_eq_true_eq] at hc2
      obtain ⟨c1, c2⟩ := hc2
      obtain ⟨f', r1, r2⟩ := moveFeathers_eq h hk hb hs hg c1
      have hk2 := okF_moveF hk hb hs hbs hg hc
      have hg2 : gg < moveF A bb ss gg nn 0 0 := by rw [moveF_ne (by decide)]; exact hg
      refine ⟨nI (sh (moveF A bb ss gg nn) gg bb), f', g', ?_, ?_, Rel_now (B := moveF A bb ss gg nn) hR (Fr_Keep0 q3 (.inl rfl)) r2 hk2 q2 (moveF_ne (by decide))⟩
      · rw [if_neg (by decide), r1]
        simp only [Option.bind_some]
        rw [held_eq r2 hk2 hg2 hb]
        rfl
      · rw [if_neg (by decide), shareOn_eq q2 (by decide) (by omega) hb]
        rfl
theorem weeks_00 (m : Bool) (A : Fk) : ∀ n, (weeks m A n).1 0 0 = A 0 0
  | 0 => rfl
  | n + 1 => by
    have ih := weeks_00 m A n
    unfold weeks
    dsimp only
    rw [week_00, ih]
theorem weeksOn_eq (hm : MS g 0 A) (hk : okF A) {n : Nat} (hn : n < 2 ^ 31) : ∃ g', lp (p_X7_weeks_L36 (nI n)) (nI 0, nI 0, g) = some (nI (weeks true A n).2, g') ∧ MS g' 0 (weeks true A n).1 ∧ Fr 0 g g' := by
  obtain ⟨x, hx, hQ⟩ := lp_ex (b := p_X7_weeks_L36 (nI n)) (I := fun i z => z.1 = nI (weeks true A i).2 ∧ z.2.1 = nI i ∧ MS z.2.2 0 (weeks true A i).1 ∧ Fr 0 g z.2.2) (Q := fun z => z.1 = nI (weeks true A n).2 ∧ MS z.2 0 (weeks true A n).1 ∧ Fr 0 g z.2) n
    (fun i hi z hz => by
      obtain ⟨z1, z2, z3⟩ := z
      obtain ⟨rfl, rfl, e3, e4⟩ := hz
      obtain ⟨g', q1, q2, q3⟩ := weekOn_eq (m := true) e3 (okF_weeks hk i) (by decide)
      refine ⟨(nI (weeks true A (i + 1)).2, nI (i + 1), g'), ?_, rfl, rfl, q2, Fr_tr e4 q3⟩
      unfold p_X7_weeks_L36
      dsimp only at q1 ⊢
      rw [if_neg (nI_ge hi hn), show nI 1 = bI true from rfl, q1]
      simp only [Option.bind_some, nI_add]
      rw [show bI true = nI 1 from rfl, nI_add]
      rfl)
    (fun z hz => by
      obtain ⟨z1, z2, z3⟩ := z
      obtain ⟨rfl, rfl, e3, e4⟩ := hz
      refine ⟨(nI (weeks true A n).2, z3), ?_, rfl, e3, e4⟩
      unfold p_X7_weeks_L36
      dsimp only
      rw [if_pos (Int32.le_refl _)]) (i := 0) (s := (nI 0, nI 0, g)) (by omega) ⟨rfl, rfl, hm, Fr_rfl 0 g⟩
  obtain ⟨y1, y2⟩ := x
  obtain ⟨e1, e2, e3⟩ := hQ
  dsimp only at e1 e2 e3
  subst e1
  exact ⟨y2, hx, e2, e3⟩
theorem op_weeks (R : Rel x0 x1 x3 x4 x5 x6 x8 s0 s1 s2 s3 g) (a : Int32) : ∃ r x1' g', p_X6_weeks x0 x1 a = some (r, x1') ∧ p_X7_weeks g a = some (r, g') ∧ Rel x0 x1' x3 x4 x5 x6 x8 s0 s1 s2 s3 g' := by
  have R0 := R
  obtain ⟨A, h, hk, hm, hR⟩ := R
  have e34 : (nI 34).toNatClampNeg = 34 := by decide
  unfold p_X6_weeks p_X7_weeks
  rw [isWithin_eq, in_c0 30 (by decide), gd_t (by decide), e34, MZ_week hm, h.1.2.1]
  simp only [Option.bind_some, bI_0]
  cases hW : wi a (nI 0) (nI 30) with
  | false => exact ⟨-1, x1, g, rfl, rfl, R0⟩
  | true =>
    obtain ⟨n, -, hn, rfl⟩ := wi_in (by decide) (by decide) hW
    rw [ite_tf, ite_tf]
    by_cases hc : nI (A 0 1) + nI n ≤ nI 999
    · rw [if_pos hc, if_pos hc]
      obtain ⟨f', q1, q2⟩ := passWeeks_eq h hk (n := n) (by omega)
      obtain ⟨g', r1, r2, r3⟩ := weeksOn_eq hm hk (n := n) (by omega)
      exact ⟨_, f', g', by rw [q1]; rfl, by rw [r1]; rfl, Rel_now (B := (weeks true A n).1) hR (Fr_Keep0 r3 (.inl rfl)) q2 (okF_weeks hk n) r2 (weeks_00 true A n)⟩
    · rw [if_neg hc, if_neg hc]
      exact ⟨-3, x1, g, rfl, rfl, R0⟩
end OPS3
