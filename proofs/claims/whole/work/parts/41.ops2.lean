/-! ===== the calls, one by one: what is changed ===== -/
section OPS2
variable {x0 x1 x2 x3 x4 x5 x6 x7 x8 s0 s1 s2 s3 g : Mem} {A : Fk}
theorem enc_upd {f : Mem} {A : Fk} (h : enc f A) {i j v : Nat} (hi : i ≠ 0) : enc (mrow i (upd (f i) j (nI v)) f) (fset A i j v) := by
  have key : ∀ a b, f a b = nI (A a b) → mrow i (upd (f i) j (nI v)) f a b = nI (fset A i j v a b) := fun a b hab => by
    rw [mrow_at]
    unfold fset
    by_cases ha : a = i
    · subst ha
      rw [if_pos rfl]
      unfold upd
      by_cases hb : b = j
      · rw [if_pos hb, if_pos ⟨rfl, hb⟩]
      · rw [if_neg hb, if_neg (fun z => hb z.2), hab]
    · rw [if_neg ha, if_neg (fun z => ha z.1), hab]
  have e0 : ∀ b, fset A i j v 0 b = A 0 b := fun b => by unfold fset; rw [if_neg (by omega)]
  obtain ⟨⟨h1, h2, h3⟩, h4, h5, h6, h7⟩ := h
  refine ⟨⟨key 0 0 h1, key 0 1 h2, key 0 2 h3⟩, fun k hk => ?_, fun k hk => key 4 k (h5 k hk), fun k hk => ⟨key 5 k (h6 k hk).1, key 6 k (h6 k hk).2⟩, fun k hk => ?_⟩
  · rw [e0] at hk
    obtain ⟨q1, q2, q3⟩ := h4 k hk
    exact ⟨key 1 k q1, key 2 k q2, key 3 k q3⟩
  · rw [e0] at hk
    obtain ⟨q1, q2, q3, q4⟩ := h7 k hk
    exact ⟨key 7 k q1, key 8 k q2, key 9 k q3, key 10 k q4⟩
theorem okF_set {A : Fk} (hk : okF A) {i j v : Nat} (hi : 1 ≤ i ∧ i ≤ 5) (hv1 : i = 1 → v < 4) (hv2 : i = 2 → v < 5) (hv3 : i = 3 → 1 ≤ v ∧ v ≤ 9) (hv4 : i = 4 → v ≤ 99 ∧ j < 5 * A 0 0) (hv5 : i = 5 → v ≤ 999) : okF (fset A i j v) := by
  have e0 : ∀ a b, a ≠ i ∨ b ≠ j → fset A i j v a b = A a b := fun a b hab => by unfold fset; rw [if_neg (by omega)]
  have e1 : fset A i j v i j = v := fset_at A i j v
  obtain ⟨h1, h2, h4, h5, h6, h7⟩ := hk
  unfold okF
  rw [e0 0 0 (.inl (by omega)), e0 0 2 (.inl (by omega))]
  refine ⟨h1, fun k hk => ?_, fun k hk => ?_, fun k hk => ?_, fun k hk => ?_, fun k hk hk2 => ?_⟩
  · obtain ⟨q1, q2, q3, q4⟩ := h2 k hk
    refine ⟨?_, ?_, ?_, ?_⟩ <;> unfold fset <;> split <;> omega
  · have := h4 k hk
    unfold fset
    split <;> omega
  · have := h5 k hk
    unfold fset
    split <;> omega
  · rw [e0 7 k (.inl (by omega)), e0 8 k (.inl (by omega)), e0 9 k (.inl (by omega)), e0 10 k (.inl (by omega))]
    exact h6 k hk
  · have := h7 k hk hk2
    unfold fset
    split <;> omega
theorem replaced_eq {n j : Nat} {r : Nat → Int32} {v : Int32} (hj : j < n) (hn : n < 2 ^ 31) : p_X6_replaced n r (nI j) v = some (r j, upd r j v) := by
  unfold p_X6_replaced
  rw [isWithin_eq]
  simp only [Option.bind_some, bI_0]
  rw [show wi (nI j) (nI 0) (nI n - nI 1) = true from hasG_nI hn hj, if_neg (by decide), gd_t (inb_nI hj hn), gd_t (inb_nI hj hn), nI_clamp (by omega)]
  rfl
theorem puts_0 (a b c : Int32) : p_X7_puts g (nI 0) a b c = some (-1, g) := by
  unfold p_X7_puts
  rw [if_pos (show nI 0 = 0 from rfl)]
theorem puts_1 {a : Nat} (ha : a < 360) (b c : Int32) : p_X7_puts g (nI 1) (nI a) b c = some (g 1 a + c, mrow 1 (upd (g 1) a (b - c)) g) := by
  unfold p_X7_puts
  rw [if_neg (by decide), gd_t (inb_nI ha (by decide)), gd_t (inb_nI ha (by decide)), nI_clamp (by omega)]
  rfl
theorem add_0 (x : Int32) : x + nI 0 = x := Int32.add_zero x
theorem sub_0 (x : Int32) : x - nI 0 = x := Int32.sub_zero x
theorem alter_B71_0 (a b c : Int32) : p_X7_alter_B71 g a b c (nI 0) = some (-1, g) := by
  unfold p_X7_alter_B71
  rw [puts_0]
  rfl
theorem alter_B50 (hm : MS g 0 A) (a b c : Int32) (q : Bool) : p_X7_alter_B50 g a b c (bI q) = if (hasG (A 0 0) a && q) = true then p_X7_alter_B71 g a b c (nI 1) else some (-1, g) := by
  unfold p_X7_alter_B50
  rw [isGoose_eq hm.1]
  simp only [Option.bind_some, bI_0]
  unfold p_X7_alter_B70
  rw [alter_B71_0]
  cases hasG (A 0 0) a <;> cases q <;> rfl
theorem alter_good (R : Rest x0 x3 x4 x5 x6 x8 s0 s1 s2 s3 g (A 0 0)) (h : enc x1 A) (hk : okF A) (hm : MS g 0 A) {j k v : Nat} (hj : j < 3) (hg : k < A 0 0) (hv1 : j = 0 → v < 4) (hv2 : j = 1 → v < 5) (hv3 : j = 2 → 1 ≤ v ∧ v ≤ 9) : p_X6_replaced 3 (x1 (1 + j)) (nI k) (nI v) = some (nI (A (1 + j) k), upd (x1 (1 + j)) k (nI v)) ∧ ∃ g', p_X7_alter_B71 g (nI k) (nI j) (nI v) (nI 1) = some (nI (A (1 + j) k), g') ∧ Rel x0 (mrow (1 + j) (upd (x1 (1 + j)) k (nI v)) x1) x3 x4 x5 x6 x8 s0 s1 s2 s3 g' := by
  have h3 := hk.1.1
  obtain ⟨q1, q2, q3⟩ := h.2.1 k hg
  have e1 : x1 (1 + j) k = nI (A (1 + j) k) := by rcases (show j = 0 ∨ j = 1 ∨ j = 2 by omega) with rfl | rfl | rfl <;> assumption
  refine ⟨by rw [replaced_eq (by omega) (by decide), e1], mrow 1 (upd (g 1) (3 * j + k) (nI v)) g, ?_, Rel_now (B := fset A (1 + j) k v) R (Fr_Keep0 (q := 0) (Fr_upd (g := g) (pg := 0) (k := 3 * j + k) (by omega)) (.inl rfl) |> fun z => by rw [Nat.zero_add] at z; exact z) (enc_upd h (by omega)) (okF_set hk (by omega) (fun z => hv1 (by omega)) (fun z => hv2 (by omega)) (fun z => hv3 (by omega)) (fun z => by omega) (fun z => by omega)) ?_ (by unfold fset; rw [if_neg (by omega)])⟩
  · unfold p_X7_alter_B71
    rw [pk_mul, nI_add, puts_1 (by omega), MZ_face hm hk hj hg, add_0, sub_0]
    rfl
  · rw [show 3 * j + k = 0 + sl (1 + j) k by rw [sl_ph (by omega) (by omega)]; omega]
    exact MS_upd hk.1 hm (by unfold dm; omega) (by omega) (by unfold vl; rw [if_neg (by omega)])
theorem op_alter (R : Rel x0 x1 x3 x4 x5 x6 x8 s0 s1 s2 s3 g) (a b c : Int32) : ∃ r x1' g', p_X6_alter x0 x1 a b c = some (r, x1') ∧ p_X7_alter g a b c = some (r, g') ∧ Rel x0 x1' x3 x4 x5 x6 x8 s0 s1 s2 s3 g' := by
  have R0 := R
  obtain ⟨A, h, hk, hm, hR⟩ := R
  unfold p_X6_alter p_X7_alter
  rw [hasGoose_eq h, isWithin_eq, isOwner_eq, isWithin_eq, in_c0 3 (by decide), isOwnerM_eq, in_c1 9 (by decide)]
  simp only [Option.bind_some, bI_0]
  have eB : ∀ q : Bool, (if q = false then p_X7_alter_B49 g a b c else p_X7_alter_B50 g a b c (nI 1)) = p_X7_alter_B50 g a b c (bI q) := fun q => by cases q <;> rfl
  have e49 : p_X7_alter_B49 g a b c = some (-1, g) := by
    have := alter_B50 hm a b c false
    rw [Bool.and_false, if_neg (by decide)] at this
    exact this
  rw [eB, e49, alter_B50 hm, alter_B50 hm, alter_B50 hm]
  cases hG : hasG (A 0 0) a with
  | false =>
    refine ⟨-1, x1, g, by rw [if_pos rfl], ?_, R0⟩
    simp only [Bool.false_and]
    rw [if_neg (show ¬ false = true by decide)]
    split
    · rfl
    · split
      · rfl
      · split <;> rfl
  | true =>
    obtain ⟨k, hg, rfl⟩ := hasG_of (geese_lt hk) hG
    rw [if_neg (show ¬ true = false by decide)]
    simp only [Bool.true_and]
    by_cases c0 : b = nI 0
    · subst c0
      rw [if_pos rfl, if_pos (show nI 0 = 0 from rfl)]
      cases hW : wi c (nI 0) (nI 3) with
      | false => exact ⟨-1, x1, g, by rw [if_pos rfl], by rw [if_neg (by decide)], R0⟩
      | true =>
        obtain ⟨v, hv1, hv, rfl⟩ := wi_in (by decide) (by decide) hW
        obtain ⟨q1, g', q2, q3⟩ := alter_good hR h hk hm (j := 0) (v := v) (by decide) hg (by omega) (by omega) (by omega)
        exact ⟨_, _, g', by rw [if_neg (by decide), q1]; rfl, by rw [if_pos rfl, q2], q3⟩
    rw [if_neg c0, if_neg (show ¬ b = 0 from c0)]
    by_cases c1 : b = nI 1
    · subst c1
      rw [if_pos rfl, if_pos rfl]
      cases hW : wi c (nI 0) (nI 4) with
      | false => exact ⟨-1, x1, g, by rw [if_pos rfl], by rw [if_neg (by decide)], R0⟩
      | true =>
        obtain ⟨v, hv1, hv, rfl⟩ := wi_in (by decide) (by decide) hW
        obtain ⟨q1, g', q2, q3⟩ := alter_good hR h hk hm (j := 1) (v := v) (by decide) hg (by omega) (by omega) (by omega)
        exact ⟨_, _, g', by rw [if_neg (by decide), q1]; rfl, by rw [if_pos rfl, q2], q3⟩
    rw [if_neg c1, if_neg c1]
    by_cases c2 : b = nI 2
    · subst c2
      rw [if_pos rfl, if_pos rfl]
      cases hW : wi c (nI 1) (nI 9) with
      | false => exact ⟨-1, x1, g, by rw [if_pos rfl], by rw [if_neg (by decide)], R0⟩
      | true =>
        obtain ⟨v, hv1, hv, rfl⟩ := wi_in (by decide) (by decide) hW
        obtain ⟨q1, g', q2, q3⟩ := alter_good hR h hk hm (j := 2) (v := v) (by decide) hg (by omega) (by omega) (by omega)
        exact ⟨_, _, g', by rw [if_neg (by decide), q1]; rfl, by rw [if_pos rfl, q2], q3⟩
    rw [if_neg c2, if_neg c2]
    exact ⟨-1, x1, g, rfl, rfl, R0⟩
theorem op_purse (R : Rel x0 x1 x3 x4 x5 x6 x8 s0 s1 s2 s3 g) (a b : Int32) : ∃ r x1' g', p_X6_purse x0 x1 a b = some (r, x1') ∧ p_X7_purse g a b = some (r, g') ∧ Rel x0 x1' x3 x4 x5 x6 x8 s0 s1 s2 s3 g' := by
  have R0 := R
  obtain ⟨A, h, hk, hm, hR⟩ := R
  unfold p_X6_purse p_X7_purse p_X7_purse_B24 p_X7_purse_B25
  rw [isOwner_eq, isWithin_eq, isOwnerM_eq, in_c0 999 (by decide), puts_0]
  simp only [Option.bind_some, bI_0]
  cases hO : wi a (nI 0) (nI 4) with
  | false => exact ⟨-1, x1, g, rfl, rfl, R0⟩
  | true =>
    obtain ⟨o, ho, rfl⟩ := wi_of (by decide) hO
    rw [ite_tf, ite_tf]
    cases hW : wi b (nI 0) (nI 999) with
    | false => exact ⟨-1, x1, g, rfl, rfl, R0⟩
    | true =>
      obtain ⟨v, -, hv, rfl⟩ := wi_in (by decide) (by decide) hW
      refine ⟨nI (A 5 o), mrow 5 (upd (x1 5) o (nI v)) x1, mrow 1 (upd (g 1) (9 + o) (nI v - nI 20)) g, ?_, ?_, Rel_now (B := fset A 5 o v) hR (Fr_Keep0 (q := 0) (by have := Fr_upd (g := g) (pg := 0) (k := 9 + o) (v := nI v - nI 20) (by omega); rwa [Nat.zero_add] at this) (.inl rfl)) (enc_upd h (by decide)) (okF_set hk (by omega) (by omega) (by omega) (by omega) (by omega) (fun _ => hv)) ?_ (fset_ne (by decide))⟩
      · rw [if_neg (by decide), replaced_eq (by omega) (by decide), (h.2.2.2.1 o (by omega)).1]
        rfl
      · rw [if_neg (by decide), nI_add, puts_1 (by omega), MZ_money hm (by omega), Int32.sub_add_cancel]
        rfl
      · rw [show 9 + o = 0 + sl 5 o by simp only [sl_1, sl_2, sl_3, sl_4, sl_5, sl_6, sl_01, sl_02]; omega]
        exact MS_upd hk.1 hm (by unfold dm; omega) (by omega) rfl
theorem op_grant (R : Rel x0 x1 x3 x4 x5 x6 x8 s0 s1 s2 s3 g) (a b c : Int32) : ∃ r x1' g', p_X6_grant x0 x1 a b c = some (r, x1') ∧ p_X7_grant g a b c = some (r, g') ∧ Rel x0 x1' x3 x4 x5 x6 x8 s0 s1 s2 s3 g' := by
  have R0 := R
  obtain ⟨A, h, hk, hm, hR⟩ := R
  have h3 := hk.1.1
  unfold p_X6_grant p_X7_grant p_X7_grant_B32 p_X7_grant_B33
  rw [hasGoose_eq h, isOwner_eq, isWithin_eq, isGoose_eq hm.1, isOwnerM_eq, in_c0 99 (by decide), puts_0]
  simp only [Option.bind_some, bI_0]
  cases hG : hasG (A 0 0) a with
  | false => exact ⟨-1, x1, g, rfl, rfl, R0⟩
  | true =>
    obtain ⟨k, hg, rfl⟩ := hasG_of (geese_lt hk) hG
    rw [ite_tf, ite_tf]
    cases hO : wi b (nI 0) (nI 4) with
    | false => exact ⟨-1, x1, g, rfl, rfl, R0⟩
    | true =>
      obtain ⟨o, ho, rfl⟩ := wi_of (by decide) hO
      rw [ite_tf, ite_tf]
      cases hW : wi c (nI 0) (nI 99) with
      | false => exact ⟨-1, x1, g, rfl, rfl, R0⟩
      | true =>
        obtain ⟨v, -, hv, rfl⟩ := wi_in (by decide) (by decide) hW
        refine ⟨nI (sh A k o), mrow 4 (upd (x1 4) (k * 5 + o) (nI v)) x1, mrow 1 (upd (g 1) (19 + 5 * k + o) (nI v)) g, ?_, ?_, Rel_now (B := fset A 4 (k * 5 + o) v) hR (Fr_Keep0 (q := 0) (by have := Fr_upd (g := g) (pg := 0) (k := 19 + 5 * k + o) (v := nI v) (by omega); rwa [Nat.zero_add] at this) (.inl rfl)) (enc_upd h (by decide)) (okF_set hk (by omega) (by omega) (by omega) (by omega) (fun _ => ⟨hv, by omega⟩) (by omega)) ?_ (fset_ne (by decide))⟩
        · rw [if_neg (by decide), pk_mul, nI_add, replaced_eq (by omega) (by decide), h.2.2.1 _ (by omega)]
          rfl
        · rw [if_neg (by decide), pk_mul, nI_add, nI_add, puts_1 (by omega), MZ_share hm (by omega) (by omega), add_0, sub_0]
          rfl
        · rw [show 19 + 5 * k + o = 0 + sl 4 (k * 5 + o) by simp only [sl_1, sl_2, sl_3, sl_4, sl_5, sl_6, sl_01, sl_02]; omega]
          exact MS_upd hk.1 hm (by unfold dm; omega) (by omega) rfl
end OPS2
