/-! ===== the calls, one by one: what is told ===== -/
section OPS1
variable {x0 x1 x2 x3 x4 x5 x6 x7 x8 s0 s1 s2 s3 g : Mem} {A : Fk}
theorem ite_tf {α : Type} {d : Decidable (true = false)} (a b : α) : @ite α (true = false) d a b = b := if_neg (fun z => Bool.noConfusion z)
theorem ite_ff {α : Type} {d : Decidable (false = false)} (a b : α) : @ite α (false = false) d a b = a := if_pos rfl
theorem wi_no {x : Int32} {a b j : Nat} (hb : b < 2 ^ 31) (h : wi x (nI a) (nI b) = false) (h1 : a ≤ j) (hj : j ≤ b) : ¬ x = nI j := by
  intro e
  subst e
  rw [wi_nI (by omega) (by omega) hb, decide_eq_true h1, decide_eq_true hj] at h
  cases h
theorem wi_in {x : Int32} {a b : Nat} (ha : a < 2 ^ 31) (hb : b < 2 ^ 31) (h : wi x (nI a) (nI b) = true) : ∃ j, a ≤ j ∧ j ≤ b ∧ x = nI j := by
  unfold wi at h
  simp only [Bool.and_eq_true, decide_eq_true_eq] at h
  obtain ⟨j, hj, rfl⟩ := nI_of (x := x) (Int32.not_lt.mpr (Int32.le_trans ((nI_leI (by decide : (0 : Nat) < 2 ^ 31) ha).mpr (Nat.zero_le a)) h.1))
  exact ⟨j, (nI_leI ha hj).mp h.1, (nI_leI hj hb).mp h.2, rfl⟩
theorem sumOf_eq {n : Nat} {r : Nat → Int32} {B : Nat → Nat} (hn : n < 2 ^ 31) (h : ∀ k, k < n → r k = nI (B k)) : p_X6_sumOf n r = some (nI (sumN B n)) := by
  have key : lp (p_X6_sumOf_L10 n r (nI n)) (nI 0, nI 0) = some (nI (sumN B n)) := by
    refine lp_for (fun i => (nI (sumN B i), nI i)) n (fun i hi => ?_) ?_
    · unfold p_X6_sumOf_L10
      dsimp only
      rw [if_neg (nI_ge hi hn), gd_t (inb_nI hi hn), nI_clamp (by omega), h i hi, nI_add, nI_add]
      rfl
    · unfold p_X6_sumOf_L10
      dsimp only
      rw [if_pos (Int32.le_refl _)]
  unfold p_X6_sumOf
  rw [key]
  rfl
theorem MZ_share (h : MS g 0 A) {k o : Nat} (hg : k < 3) (ho : o < 5) : g 1 (19 + 5 * k + o) = nI (sh A k o) := by have := MS_share h hg ho; rwa [Nat.zero_add] at this
theorem MZ_money (h : MS g 0 A) {o : Nat} (ho : o < 5) : g 1 (9 + o) = nI (A 5 o) - nI 20 := by have := MS_money h ho; rwa [Nat.zero_add] at this
theorem MZ_egg (h : MS g 0 A) {o : Nat} (ho : o < 5) : g 1 (14 + o) = nI (A 6 o) := by have := MS_egg h ho; rwa [Nat.zero_add] at this
theorem MZ_week (h : MS g 0 A) : g 1 34 = nI (A 0 1) := MS_week h
theorem MZ_many (h : MS g 0 A) : g 1 59 = nI (A 0 2) := MS_many h
theorem MZ_plan (h : MS g 0 A) {i j : Nat} (hi : i < A 0 2) (hj : j < 4) : g 1 (35 + 4 * i + j) = nI (A (7 + j) i) := by have := MS_plan h hi hj; rwa [Nat.zero_add] at this
theorem MZ_face (h : MS g 0 A) (hk : okF A) {i k : Nat} (hi : i < 3) (hg : k < A 0 0) : g 1 (3 * i + k) = nI (A (1 + i) k) := by
  have h3 := hk.1.1
  have e1 := MS_kind h hg h3
  have e2 := MS_skin h hg h3
  have e3 := MS_price h hg h3
  rw [Nat.zero_add] at e1
  simp only [Nat.zero_add] at e2 e3
  rcases (show i = 0 ∨ i = 1 ∨ i = 2 by omega) with rfl | rfl | rfl
  · simpa using e1
  · exact e2
  · exact e3
theorem op_rule (R : Rel x0 x1 x3 x4 x5 x6 x8 s0 s1 s2 s3 g) (a : Int32) : ∃ r, p_X6_rule x0 x1 a = some r ∧ p_X7_rule g a = some r := by
  obtain ⟨A, h, hk, hm, hR⟩ := R
  have L1 : lp (p_X7_rule_L10 g a (nI 0)) (nI 0, nI 0, nI 0) = some (nI (sumN (A 5) 5), nI (sumN (A 6) 5)) := by
    refine lp_for (fun i => (nI (sumN (A 5) i), nI (sumN (A 6) i), nI i)) 5 (fun i hi => ?_) ?_
    · unfold p_X7_rule_L10
      dsimp only
      rw [if_neg (nI_ge hi (by decide)), moneyOn_eq hm (by decide) hi]
      simp only [Option.bind_some, nI_add]
      rw [gd_t (inb_nI (by omega) (by decide)), nI_clamp (by omega), MZ_egg hm hi, nI_add]
      rfl
    · unfold p_X7_rule_L10
      dsimp only
      rw [if_pos (Int32.le_refl _)]
  have L2 : ∀ u v, lp (p_X7_rule_L48 g a u v) (nI 0, nI 0) = some (bareI A) := fun u v => by
    refine lp_for (fun i => (bitsI (fun g => decide (feath A g = 0)) i, nI i)) (A 0 0) (fun i hi => ?_) ?_
    · have := feath_le hk hi
      have h3 := hk.1.1
      unfold p_X7_rule_L48
      dsimp only
      rw [hm.1, if_neg (nI_ge hi (geese_lt hk)), feathersOn_eq hm (by decide) (by omega)]
      simp only [Option.bind_some]
      unfold p_X7_rule_B77
      by_cases hc : feath A i = 0
      · rw [if_pos ((nI_z (by omega)).mpr hc), nI_add]; simp [bitsI, hc]
      · rw [if_neg (fun z => hc ((nI_z (by omega)).mp z)), nI_add, or_0]; simp [bitsI, hc]
    · unfold p_X7_rule_L48
      dsimp only
      rw [hm.1, if_pos (Int32.le_refl _)]
      rfl
  unfold p_X6_rule p_X7_rule
  rw [L1]
  simp only [Option.bind_some]
  rw [L2]
  simp only [Option.bind_some]
  by_cases c0 : a = nI 0
  · exact ⟨nI (A 0 0), by rw [if_pos c0, h.1.1], by rw [if_pos c0, hm.1]⟩
  rw [if_neg c0, if_neg c0]
  by_cases c1 : a = nI 1
  · exact ⟨nI (A 0 1), by rw [if_pos c1, h.1.2.1], by rw [if_pos c1, gd_t (inb_nI (by omega) (by decide)), nI_clamp (by decide), MZ_week hm]⟩
  rw [if_neg c1, if_neg c1]
  by_cases c2 : a = nI 2
  · exact ⟨nI (A 0 2), by rw [if_pos c2, h.1.2.2], by rw [if_pos c2, gd_t (inb_nI (by omega) (by decide)), nI_clamp (by decide), MZ_many hm]⟩
  rw [if_neg c2, if_neg c2]
  by_cases c3 : a = nI 3
  · exact ⟨nI (sumN (A 5) 5), by rw [if_pos c3, sumOf_eq (by decide) (fun k hk => (h.2.2.2.1 k hk).1)]; rfl, by rw [if_pos c3]⟩
  rw [if_neg c3, if_neg c3]
  by_cases c4 : a = nI 4
  · exact ⟨nI (sumN (A 6) 5), by rw [if_pos c4, sumOf_eq (by decide) (fun k hk => (h.2.2.2.1 k hk).2)]; rfl, by rw [if_pos c4]⟩
  rw [if_neg c4, if_neg c4]
  by_cases c5 : a = nI 5
  · exact ⟨bareI A, by rw [if_pos c5, bareGeese_eq h hk]; rfl, by rw [if_pos c5]⟩
  rw [if_neg c5, if_neg c5]
  exact ⟨-1, rfl, rfl⟩
theorem op_goose (R : Rel x0 x1 x3 x4 x5 x6 x8 s0 s1 s2 s3 g) (a b : Int32) : ∃ r, p_X6_goose x0 x1 a b = some r ∧ p_X7_goose g a b = some r := by
  obtain ⟨A, h, hk, hm, hR⟩ := R
  have h3 := hk.1.1
  unfold p_X6_goose p_X7_goose
  rw [hasGoose_eq h, isGoose_eq hm.1, in_c0 4 (by decide)]
  simp only [Option.bind_some, bI_0]
  cases hG : hasG (A 0 0) a with
  | false => exact ⟨-1, rfl, rfl⟩
  | true =>
    obtain ⟨k, hg, rfl⟩ := hasG_of (geese_lt hk) hG
    rw [ite_tf, ite_tf]
    cases hW : wi b (nI 0) (nI 4) with
    | false =>
      rw [if_neg (wi_no (by decide) hW (by decide) (by decide)), if_neg (wi_no (by decide) hW (by decide) (by decide)), if_neg (wi_no (by decide) hW (by decide) (by decide)), if_neg (wi_no (by decide) hW (by decide) (by decide)), if_neg (wi_no (by decide) hW (by decide) (by decide)), if_pos rfl]
      exact ⟨-1, rfl, rfl⟩
    | true =>
      obtain ⟨j, -, hj, rfl⟩ := wi_in (by decide) (by decide) hW
      rw [if_neg (show ¬ true = false by decide)]
      rcases (show j = 0 ∨ j = 1 ∨ j = 2 ∨ j = 3 ∨ j = 4 by omega) with rfl | rfl | rfl | rfl | rfl
      · refine ⟨nI (A 1 k), ?_, ?_⟩
        · rw [if_pos rfl, gd_t (inb_nI (by omega) (by decide)), nI_clamp (by omega), (h.2.1 k hg).1]
        · rw [if_neg (by decide), pk_mul, nI_add, gd_t (inb_nI (by omega) (by decide)), nI_clamp (by omega), MZ_face hm hk (by decide) hg]
      · refine ⟨nI (A 2 k), ?_, ?_⟩
        · rw [if_neg (by decide), if_pos rfl, gd_t (inb_nI (by omega) (by decide)), nI_clamp (by omega), (h.2.1 k hg).2.1]
        · rw [if_neg (by decide), pk_mul, nI_add, gd_t (inb_nI (by omega) (by decide)), nI_clamp (by omega), MZ_face hm hk (by decide) hg]
      · refine ⟨nI (A 3 k), ?_, ?_⟩
        · rw [if_neg (by decide), if_neg (by decide), if_pos rfl, gd_t (inb_nI (by omega) (by decide)), nI_clamp (by omega), (h.2.1 k hg).2.2]
        · rw [if_neg (by decide), pk_mul, nI_add, gd_t (inb_nI (by omega) (by decide)), nI_clamp (by omega), MZ_face hm hk (by decide) hg]
      · refine ⟨nI (feath A k), ?_, ?_⟩
        · rw [if_neg (by decide), if_neg (by decide), if_neg (by decide), if_pos rfl, feathersOf_eq h hk hg]; rfl
        · rw [if_pos (by decide), if_pos rfl, feathersOn_eq hm (by decide) (by omega)]; rfl
      · refine ⟨eI (egg A k), ?_, ?_⟩
        · rw [if_neg (by decide), if_neg (by decide), if_neg (by decide), if_neg (by decide), if_pos rfl, eggOwner_eq h hk hg]; rfl
        · rw [if_pos (by decide), if_neg (by decide), eggOn_eq hm hk (by decide) hg]; rfl
/-- what is told of an owner -/
def own (A : Fk) (o j : Nat) : Int32 := if j = 0 then nI (A 5 o) else if j = 1 then nI (A 6 o) else if j = 2 then nI (worth A o) else eggsI A o
theorem ofOwner_eq (h : enc x1 A) (hk : okF A) {o j : Nat} (ho : o < 5) (hj : j ≤ 3) : p_X0_ofOwner x1 (nI o) (nI j) = some (own A o j) := by
  unfold p_X0_ofOwner own
  rcases (show j = 0 ∨ j = 1 ∨ j = 2 ∨ j = 3 by omega) with rfl | rfl | rfl | rfl
  · rw [if_pos rfl, if_pos rfl, gd_t (inb_nI (by omega) (by decide)), nI_clamp (by omega), (h.2.2.2.1 o ho).1]
  · rw [if_neg (by decide), if_pos rfl, if_neg (by decide), if_pos rfl, gd_t (inb_nI (by omega) (by decide)), nI_clamp (by omega), (h.2.2.2.1 o ho).2]
  · rw [if_neg (by decide), if_neg (by decide), if_pos rfl, if_neg (by decide), if_neg (by decide), if_pos rfl, worth_eq h hk ho]; rfl
  · rw [if_neg (by decide), if_neg (by decide), if_neg (by decide), if_pos rfl, if_neg (by decide), if_neg (by decide), if_neg (by decide), geeseWithEggOf_eq h hk ho]; rfl
theorem ofOwner_no {b : Int32} (hW : wi b (nI 0) (nI 3) = false) (a : Int32) : p_X0_ofOwner x1 a b = some (-1) := by
  unfold p_X0_ofOwner
  rw [if_neg (wi_no (by decide) hW (by decide) (by decide)), if_neg (wi_no (by decide) hW (by decide) (by decide)), if_neg (wi_no (by decide) hW (by decide) (by decide)), if_neg (wi_no (by decide) hW (by decide) (by decide))]
theorem ownerOn_eq {pg : Nat} (hm : MS g pg A) (hk : okF A) (hp : pg ≤ 300) {o j : Nat} (ho : o < 5) (hj : j ≤ 3) : p_X7_ownerOn g (nI pg) (nI o) (nI j) = some (own A o j) := by
  unfold p_X7_ownerOn own
  rcases (show j = 0 ∨ j = 1 ∨ j = 2 ∨ j = 3 by omega) with rfl | rfl | rfl | rfl
  · rw [if_pos (show nI 0 = 0 from rfl), if_pos rfl, moneyOn_eq hm hp ho]; rfl
  · rw [if_neg (by decide), if_pos rfl, if_neg (by decide), if_pos rfl, nI_add, nI_add, gd_t (inb_nI (by omega) (by decide)), nI_clamp (by omega), MS_egg hm ho]
  · rw [if_neg (by decide), if_neg (by decide), if_pos rfl, if_neg (by decide), if_neg (by decide), if_pos rfl, worthOn_eq hm hk hp ho]; rfl
  · rw [if_neg (by decide), if_neg (by decide), if_neg (by decide), if_neg (by decide), if_neg (by decide), if_neg (by decide), eggsNow_eq hm hk hp ho]; rfl
theorem op_owner (R : Rel x0 x1 x3 x4 x5 x6 x8 s0 s1 s2 s3 g) (a b : Int32) : ∃ r, p_X6_owner x0 x1 a b = some r ∧ p_X7_owner g a b = some r := by
  obtain ⟨A, h, hk, hm, hR⟩ := R
  unfold p_X6_owner p_X7_owner
  rw [isOwner_eq, isOwnerM_eq, in_c0 3 (by decide)]
  simp only [Option.bind_some, bI_0]
  cases hO : wi a (nI 0) (nI 4) with
  | false => exact ⟨-1, rfl, rfl⟩
  | true =>
    obtain ⟨o, ho, rfl⟩ := wi_of (by decide) hO
    rw [ite_tf, ite_tf]
    cases hW : wi b (nI 0) (nI 3) with
    | false => exact ⟨-1, by rw [ofOwner_no hW]; rfl, rfl⟩
    | true =>
      obtain ⟨j, -, hj, rfl⟩ := wi_in (by decide) (by decide) hW
      exact ⟨own A o j, by rw [ofOwner_eq h hk (by omega) hj]; rfl, by rw [if_neg (by decide), ownerOn_eq hm hk (by decide) (by omega) hj]; rfl⟩
theorem op_share (R : Rel x0 x1 x3 x4 x5 x6 x8 s0 s1 s2 s3 g) (a b : Int32) : ∃ r, p_X6_share x0 x1 a b = some r ∧ p_X7_share g a b = some r := by
  obtain ⟨A, h, hk, hm, hR⟩ := R
  have h3 := hk.1.1
  unfold p_X6_share p_X7_share
  rw [hasGoose_eq h, isGoose_eq hm.1, isOwner_eq, isOwnerM_eq]
  simp only [Option.bind_some, bI_0]
  cases hG : hasG (A 0 0) a with
  | false => exact ⟨-1, rfl, rfl⟩
  | true =>
    obtain ⟨k, hg, rfl⟩ := hasG_of (geese_lt hk) hG
    cases hO : wi b (nI 0) (nI 4) with
    | false => exact ⟨-1, rfl, rfl⟩
    | true =>
      obtain ⟨o, ho, rfl⟩ := wi_of (by decide) hO
      exact ⟨nI (sh A k o), by rw [ite_tf, ite_tf, held_eq h hk hg (by omega)]; rfl, by rw [ite_tf, ite_tf, shareOn_eq hm (by decide) (by omega) (by omega)]; rfl⟩
theorem op_trade (R : Rel x0 x1 x3 x4 x5 x6 x8 s0 s1 s2 s3 g) (a b : Int32) : ∃ r, p_X6_trade x0 x1 a b = some r ∧ p_X7_trade g a b = some r := by
  obtain ⟨A, h, hk, hm, hR⟩ := R
  have h6 := hk.1.2
  unfold p_X6_trade p_X7_trade
  rw [isWithin_eq, gd_t (inb_nI (by omega) (by decide)), nI_clamp (by decide), MZ_many hm, h.1.2.2, in_0, in_c0 3 (by decide)]
  simp only [Option.bind_some, bI_0]
  cases hG : wi a (nI 0) (nI (A 0 2) - nI 1) with
  | false => exact ⟨-1, rfl, rfl⟩
  | true =>
    obtain ⟨i, hi, rfl⟩ := hasG_of (n := A 0 2) (by omega) hG
    obtain ⟨e1, e2, e3, e4⟩ := h.2.2.2.2 i hi
    rw [ite_tf, ite_tf]
    cases hW : wi b (nI 0) (nI 3) with
    | false =>
      rw [if_neg (wi_no (by decide) hW (by decide) (by decide)), if_neg (wi_no (by decide) hW (by decide) (by decide)), if_neg (wi_no (by decide) hW (by decide) (by decide)), if_neg (wi_no (by decide) hW (by decide) (by decide)), if_pos rfl]
      exact ⟨-1, rfl, rfl⟩
    | true =>
      obtain ⟨j, -, hj, rfl⟩ := wi_in (by decide) (by decide) hW
      have em : (if true = false then (some (-1 : Int32)) else gd (inb (nI 35 + nI 4 * nI i + nI j) 360) (some (g 1 (nI 35 + nI 4 * nI i + nI j).toNatClampNeg))) = some (nI (A (7 + j) i)) := by
        rw [if_neg (by decide), pk_mul, nI_add, nI_add, gd_t (inb_nI (by omega) (by decide)), nI_clamp (by omega), MZ_plan hm hi (by omega)]
      refine ⟨nI (A (7 + j) i), ?_, em⟩
      rcases (show j = 0 ∨ j = 1 ∨ j = 2 ∨ j = 3 by omega) with rfl | rfl | rfl | rfl
      · rw [if_pos rfl, gd_t (inb_nI (by omega) (by decide)), nI_clamp (by omega), e1]
      · rw [if_neg (by decide), if_pos rfl, gd_t (inb_nI (by omega) (by decide)), nI_clamp (by omega), e2]
      · rw [if_neg (by decide), if_neg (by decide), if_pos rfl, gd_t (inb_nI (by omega) (by decide)), nI_clamp (by omega), e3]
      · rw [if_neg (by decide), if_neg (by decide), if_neg (by decide), if_pos rfl, gd_t (inb_nI (by omega) (by decide)), nI_clamp (by omega), e4]
theorem sh_feath {A : Fk} {k o : Nat} (ho : o < 5) : sh A k o ≤ feath A k := by
  unfold feath
  simp only [sumN]
  rcases (show o = 0 ∨ o = 1 ∨ o = 2 ∨ o = 3 ∨ o = 4 by omega) with rfl | rfl | rfl | rfl | rfl <;> omega
theorem op_reign (R : Rel x0 x1 x3 x4 x5 x6 x8 s0 s1 s2 s3 g) (a b : Int32) : ∃ r, p_X6_reign x0 x1 a b = some r ∧ p_X7_reign g a b = some r := by
  obtain ⟨A, h, hk, hm, hR⟩ := R
  have h3 := hk.1.1
  unfold p_X6_reign p_X7_reign
  rw [hasGoose_eq h, isGoose_eq hm.1, isOwner_eq, isOwnerM_eq]
  simp only [Option.bind_some, bI_0]
  cases hG : hasG (A 0 0) a with
  | false => exact ⟨-1, rfl, rfl⟩
  | true =>
    obtain ⟨k, hg, rfl⟩ := hasG_of (geese_lt hk) hG
    cases hO : wi b (nI 0) (nI 4) with
    | false => exact ⟨-1, rfl, rfl⟩
    | true =>
      obtain ⟨o, ho, rfl⟩ := wi_of (by decide) hO
      have l1 := feath_le hk hg
      have l2 := sh_feath (A := A) (k := k) (o := o) (by omega)
      rw [ite_tf, ite_tf, if_neg (by decide), if_neg (by decide), held_eq h hk hg (by omega), feathersOf_eq h hk hg, shareOn_eq hm (by decide) (by omega) (by omega), feathersOn_eq hm (by decide) (by omega)]
      simp only [Option.bind_some]
      rw [pk_sub l2, nI_add]
      by_cases hc : 99 ≤ feath A k - sh A k o
      · exact ⟨-4, by rw [if_pos ((nI_ltI (by omega) (by omega)).mpr (by omega))], by rw [if_pos ((nI_leI (by omega) (by omega)).mpr hc)]⟩
      · exact ⟨nI (feath A k - sh A k o + 1), by rw [if_neg (fun z => by have := (nI_ltI (by omega) (by omega)).mp z; omega)], by rw [if_neg (fun z => hc ((nI_leI (by omega) (by omega)).mp z))]⟩
theorem op_fault (R : Rel x0 x1 x3 x4 x5 x6 x8 s0 s1 s2 s3 g) : ∃ r, p_X6_fault x0 x6 = some r ∧ p_X7_fault g = some r := by
  obtain ⟨A, h, hk, hm, hR⟩ := R
  exact ⟨x6 0 1, rfl, by unfold p_X7_fault; rw [← hR.2.1]⟩
theorem op_torn (R : Rel x0 x1 x3 x4 x5 x6 x8 s0 s1 s2 s3 g) : ∃ r, p_X6_torn x0 = some r ∧ p_X7_torn g = some r := by
  obtain ⟨A, h, hk, hm, hR⟩ := R
  exact ⟨x0 0 1, rfl, by unfold p_X7_torn; rw [← hR.2.2.2.2.2.1]⟩
theorem sumN_add {f : Nat → Nat} (a : Nat) : ∀ b, sumN f (a + b) = sumN f a + sumN (fun k => f (a + k)) b
  | 0 => by simp [sumN]
  | b + 1 => by
    have ih := sumN_add (f := f) a b
    have e1 : sumN f (a + (b + 1)) = sumN f (a + b) + f (a + b) := rfl
    have e2 : sumN (fun k => f (a + k)) (b + 1) = sumN (fun k => f (a + k)) b + f (a + b) := rfl
    omega
theorem sumN_4 (A : Fk) : ∀ n, sumN (A 4) (5 * n) = sumN (feath A) n
  | 0 => rfl
  | n + 1 => by
    have ih := sumN_4 A n
    have e : sumN (feath A) (n + 1) = sumN (feath A) n + feath A n := rfl
    rw [e, ← ih, show 5 * (n + 1) = 5 * n + 5 by omega, sumN_add]
    congr 1
    unfold feath
    congr 1
    funext k
    unfold sh
    rw [Nat.mul_comm]
theorem sumN_all {A : Fk} (hk : okF A) : sumN (A 4) 15 = sumN (feath A) (A 0 0) := by
  have h3 := hk.1.1
  rw [← sumN_4, show 15 = 5 * A 0 0 + (15 - 5 * A 0 0) by omega, sumN_add]
  have : sumN (fun k => A 4 (5 * A 0 0 + k)) (15 - 5 * A 0 0) = 0 := (sumN_0 _).mpr (fun k hk2 => hk.2.2.2.2.2 _ (by omega) (by omega))
  omega
theorem op_count (R : Rel x0 x1 x3 x4 x5 x6 x8 s0 s1 s2 s3 g) (a : Int32) : ∃ r, p_X6_count x0 x1 x5 x8 s0 s1 s2 s3 a = some r ∧ p_X7_count g a = some r := by
  obtain ⟨A, h, hk, hm, hR⟩ := R
  have h6 := hk.1.2
  have L1 : lp (p_X7_count_L7 g a (nI 0)) (nI 0, nI 0) = some (nI (sumN (feath A) (A 0 0))) := by
    refine lp_for (fun i => (nI (sumN (feath A) i), nI i)) (A 0 0) (fun i hi => ?_) ?_
    · have h3 := hk.1.1
      unfold p_X7_count_L7
      dsimp only
      rw [hm.1, if_neg (nI_ge hi (geese_lt hk)), feathersOn_eq hm (by decide) (by omega)]
      simp only [Option.bind_some, nI_add]
      rfl
    · unfold p_X7_count_L7
      dsimp only
      rw [hm.1, if_pos (Int32.le_refl _)]
  have L2 : ∀ u, lp (p_X7_count_L35 g a u) (nI 0, nI 0) = some (nI (sumN (A 10) (A 0 2))) := fun u => by
    refine lp_for (fun i => (nI (sumN (A 10) i), nI i)) (A 0 2) (fun i hi => ?_) ?_
    · unfold p_X7_count_L35
      dsimp only
      rw [gd_t (inb_nI (by omega) (by decide)), nI_clamp (by decide), MZ_many hm, if_neg (nI_ge hi (by omega)), pk_mul, nI_add, nI_add, nI_add, gd_t (inb_nI (by omega) (by decide)), nI_clamp (by omega), MZ_plan hm hi (by decide), nI_add]
      rfl
    · unfold p_X7_count_L35
      dsimp only
      rw [gd_t (inb_nI (by omega) (by decide)), nI_clamp (by decide), MZ_many hm, if_pos (Int32.le_refl _)]
  obtain ⟨⟨n, hn, t1, t2, -⟩, -, ⟨k0, k1, i1, i2, i3, -, -⟩, ⟨m, S, hm6, v1, v2, -⟩, ⟨hs0, -, -, -⟩, -, -⟩ := hR
  unfold p_X6_count p_X7_count
  rw [L1]
  simp only [Option.bind_some]
  rw [L2]
  simp only [Option.bind_some]
  by_cases c0 : a = nI 0
  · exact ⟨nI m, by rw [if_pos c0, v1], by rw [if_pos c0, v2]⟩
  rw [if_neg c0, if_neg c0]
  by_cases c1 : a = nI 1
  · refine ⟨nI ((if k0 = true then 1 else 0) + (if k1 = true then 1 else 0)), ?_, ?_⟩
    · rw [if_pos c1, i1]
      cases k0 <;> cases k1 <;> decide
    · rw [if_pos c1, gd_t (by decide), nI_clamp (by decide), i2]
      unfold p_X7_count_B127
      rw [gd_t (by decide), nI_clamp (by decide), i3]
      cases k0 <;> cases k1 <;> decide
  rw [if_neg c1, if_neg c1]
  by_cases c2 : a = nI 2
  · exact ⟨nI n, by rw [if_pos c2, t1], by rw [if_pos c2, t2]⟩
  rw [if_neg c2, if_neg c2]
  by_cases c3 : a = nI 3
  · rw [if_pos c3, if_pos c3, gd_t (by decide), gd_t (by decide), nI_clamp (by decide)]
    rcases hs0 with ⟨e1, e2⟩ | ⟨l, n0, hl, hn0, e1, e2, e3, e4, e5, -⟩
    · exact ⟨-4, by rw [e1, if_neg (by decide)], by rw [e2, if_pos rfl]⟩
    · exact ⟨nI n0, by rw [e1, if_pos (show nI 0 = 0 from rfl), e3], by rw [e4, if_neg (nI_m (by omega) (by decide)), e5]⟩
  rw [if_neg c3, if_neg c3]
  by_cases c4 : a = nI 4
  · exact ⟨nI (sumN (A 4) 15), by rw [if_pos c4, sumOf_eq (by decide) h.2.2.1]; rfl, by rw [if_pos c4, sumN_all hk]⟩
  rw [if_neg c4, if_neg c4]
  by_cases c5 : a = nI 5
  · exact ⟨nI (sumN (A 10) (A 0 2)), by rw [if_pos c5, feathersOfPlan_eq h hk]; rfl, by rw [if_pos c5]⟩
  rw [if_neg c5, if_neg c5]
  exact ⟨-1, rfl, rfl⟩
end OPS1
