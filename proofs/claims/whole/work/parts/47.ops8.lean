/-! ===== the calls, one by one: votes, fractions ===== -/
section OPS8
variable {x0 x1 x2 x3 x4 x5 x6 x7 x8 s0 s1 s2 s3 g : Mem} {A : Fk}
def bitO (x : Int32) (o : Nat) : Int32 := (x >>> (nI o &&& 31)) &&& nI 1
theorem bitO_01 (x : Int32) (o : Nat) : bitO x o = nI 0 ∨ bitO x o = nI 1 := by
  obtain ⟨j, hj, e⟩ := pk_andE (x >>> (nI o &&& 31)) (m := nI 1) 1 (by decide)
  unfold bitO
  rw [e]
  rcases (show j = 0 ∨ j = 1 by omega) with rfl | rfl
  · exact .inl rfl
  · exact .inr rfl
def vot (A : Fk) (k : Nat) (x : Int32) : Nat → Nat := sumN (fun o => if bitO x o = nI 1 then sh A k o else 0)
theorem vot_le {A : Fk} (hk : okF A) {k : Nat} (hg : k < A 0 0) (x : Int32) : vot A k x 5 ≤ 495 := sumN_le (m := 99) 5 (fun o ho => by
  have := sh_le hk hg ho
  split <;> omega)
theorem isInPower_eq {f : Mem} (h : enc f A) (hk : okF A) {k : Nat} (hg : k < A 0 0) (x : Int32) : p_X0_isInPower f (nI k) x = some (bI (decide (feath A k < 2 * vot A k x 5))) := by
  have key : lp (p_X0_isInPower_L5 f (nI k) x) (nI 0, nI 0) = some (nI (vot A k x 5)) := by
    refine lp_for (fun i => (nI (vot A k x i), nI i)) 5 (fun i hi => ?_) ?_
    · unfold p_X0_isInPower_L5
      dsimp only
      rw [if_neg (nI_ge hi (by decide)), held_eq h hk hg hi]
      simp only [Option.bind_some]
      have e : vot A k x (i + 1) = vot A k x i + if bitO x i = nI 1 then sh A k i else 0 := rfl
      rw [show (x >>> (nI i &&& 31)) &&& nI 1 = bitO x i from rfl, e, nI_add]
      rcases bitO_01 x i with hb | hb
      · rw [hb, if_neg (by decide), pk_mul, nI_add, Nat.zero_mul]
      · rw [hb, if_pos rfl, pk_mul, nI_add, Nat.one_mul]
    · unfold p_X0_isInPower_L5
      dsimp only
      rw [if_pos (Int32.le_refl _)]
  have l1 := vot_le hk hg x
  have l2 := feath_le hk hg
  unfold p_X0_isInPower
  rw [key]
  simp only [Option.bind_some]
  rw [feathersOf_eq h hk hg]
  simp only [Option.bind_some]
  rw [pk_mul]
  by_cases hc : feath A k < 2 * vot A k x 5
  · rw [if_neg (fun z => by have := (nI_leI (by omega) (by omega)).mp z; omega), decide_eq_true hc]; rfl
  · rw [if_pos ((nI_leI (by omega) (by omega)).mpr (by omega)), decide_eq_false hc]; rfl
theorem sumOfM_eq (hm : MS g 0 A) {k : Nat} (hg : k < 3) (x : Int32) : p_X7_sumOf g (nI k) x = some (nI (vot A k x 5)) := by
  have key : lp (p_X7_sumOf_L5 g (nI k) x) (nI 0, nI 0) = some (nI (vot A k x 5)) := by
    refine lp_for (fun i => (nI (vot A k x i), nI i)) 5 (fun i hi => ?_) ?_
    · unfold p_X7_sumOf_L5
      dsimp only
      have e : vot A k x (i + 1) = vot A k x i + if bitO x i = nI 1 then sh A k i else 0 := rfl
      rw [if_neg (nI_ge hi (by decide)), show (x >>> (nI i &&& 31)) &&& nI 1 = bitO x i from rfl, e]
      by_cases hb : bitO x i = nI 1
      · rw [if_pos hb, if_pos hb, shareOn_eq hm (by decide) hg hi]
        simp only [Option.bind_some, nI_add]
      · rw [if_neg hb, if_neg hb]
        simp only [nI_add]
    · unfold p_X7_sumOf_L5
      dsimp only
      rw [if_pos (Int32.le_refl _)]
  unfold p_X7_sumOf
  rw [key]
  rfl
/-- does an owner swing these? -/
def swg1 (A : Fk) (k o i : Nat) : Bool := decide (bitO (nI i) o = 0) && (!decide (feath A k < 2 * vot A k (nI i) 5) && decide (feath A k < 2 * vot A k (nI i ||| ((nI 1) <<< (nI o &&& 31))) 5))
def swg (A : Fk) (k o : Nat) : Nat → Nat := sumN (fun i => if swg1 A k o i = true then 1 else 0)
theorem swg_le (A : Fk) (k o n : Nat) : swg A k o n ≤ n := by
  have := sumN_le (f := fun i => if swg1 A k o i = true then 1 else 0) (m := 1) n (fun i _ => by split <;> omega)
  unfold swg
  omega
theorem swg_S (A : Fk) (k o i : Nat) : swg A k o (i + 1) = swg A k o i + if swg1 A k o i = true then 1 else 0 := rfl
theorem setsSwungBy_eq {f : Mem} (h : enc f A) (hk : okF A) {k : Nat} (hg : k < A 0 0) (o : Nat) : p_X0_setsSwungBy f (nI k) (nI o) = some (nI (swg A k o 32)) := by
  have key : lp (p_X0_setsSwungBy_L5 f (nI k) (nI o)) (nI 0, nI 0) = some (nI (swg A k o 32)) := by
    refine lp_for (fun i => (nI (swg A k o i), nI i)) 32 (fun i hi => ?_) ?_
    · unfold p_X0_setsSwungBy_L5
      dsimp only
      rw [if_neg (nI_ge hi (by decide)), show (nI i >>> (nI o &&& 31)) &&& nI 1 = bitO (nI i) o from rfl, swg_S]
      unfold p_X0_setsSwungBy_B26
      by_cases hb : bitO (nI i) o = 0
      · rw [if_pos hb, if_neg (by decide), isInPower_eq h hk hg]
        simp only [Option.bind_some, bI_0]
        by_cases h1 : feath A k < 2 * vot A k (nI i) 5
        · have e : swg1 A k o i = false := by unfold swg1; rw [decide_eq_true h1]; simp
          rw [decide_eq_true h1, ite_tf, e, if_neg (by decide), nI_add]
          rfl
        · rw [decide_eq_false h1, ite_ff, isInPower_eq h hk hg]
          simp only [Option.bind_some, bI_0]
          by_cases h2 : feath A k < 2 * vot A k (nI i ||| ((nI 1) <<< (nI o &&& 31))) 5
          · have e : swg1 A k o i = true := by unfold swg1; rw [decide_eq_true hb, decide_eq_false h1, decide_eq_true h2]; rfl
            rw [decide_eq_true h2, ite_tf, e, if_pos rfl, nI_add, nI_add]
          · have e : swg1 A k o i = false := by unfold swg1; rw [decide_eq_false h2]; simp
            rw [decide_eq_false h2, ite_ff, e, if_neg (by decide), nI_add]
            rfl
      · have e : swg1 A k o i = false := by unfold swg1; rw [decide_eq_false hb]; rfl
        rw [if_neg hb, if_pos (show nI 0 = 0 from rfl), e, if_neg (by decide), nI_add]
        rfl
    · unfold p_X0_setsSwungBy_L5
      dsimp only
      rw [if_pos (Int32.le_refl _)]
  unfold p_X0_setsSwungBy
  rw [key]
  rfl
theorem swingsOf_eq (hm : MS g 0 A) (hk : okF A) {k : Nat} (hg : k < A 0 0) (o : Nat) : p_X7_swingsOf g (nI k) (nI o) = some (nI (swg A k o 32)) := by
  have h3 := hk.1.1
  have l2 := feath_le hk hg
  have key : lp (p_X7_swingsOf_L13 g (nI k) (nI o) (nI (feath A k))) (nI 0, nI 0) = some (nI (swg A k o 32)) := by
    refine lp_for (fun i => (nI (swg A k o i), nI i)) 32 (fun i hi => ?_) ?_
    · have l1 := vot_le hk hg (nI i)
      have l3 := vot_le hk hg (nI i ||| ((nI 1) <<< (nI o &&& 31)))
      unfold p_X7_swingsOf_L13
      dsimp only
      rw [if_neg (nI_ge hi (by decide)), show (nI i >>> (nI o &&& 31)) &&& nI 1 = bitO (nI i) o from rfl, swg_S]
      unfold p_X7_swingsOf_B34
      by_cases hb : bitO (nI i) o = 0
      · rw [if_pos hb, if_neg (by decide), sumOfM_eq hm (by omega), sumOfM_eq hm (by omega)]
        simp only [Option.bind_some, pk_mul, nI_add]
        by_cases h1 : feath A k < 2 * vot A k (nI i) 5
        · have e : swg1 A k o i = false := by unfold swg1; rw [decide_eq_true h1]; simp
          rw [if_pos ((nI_ltI (by omega) (by omega)).mpr h1), e, if_neg (by decide)]
        · rw [if_neg (fun z => h1 ((nI_ltI (by omega) (by omega)).mp z))]
          by_cases h2 : feath A k < 2 * vot A k (nI i ||| ((nI 1) <<< (nI o &&& 31))) 5
          · have e : swg1 A k o i = true := by unfold swg1; rw [decide_eq_true hb, decide_eq_false h1, decide_eq_true h2]; rfl
            rw [if_neg (fun z => by have := (nI_leI (by omega) (by omega)).mp z; omega), e, if_pos rfl]
          · have e : swg1 A k o i = false := by unfold swg1; rw [decide_eq_false h2]; simp
            rw [if_pos ((nI_leI (by omega) (by omega)).mpr (by omega)), e, if_neg (by decide)]
      · have e : swg1 A k o i = false := by unfold swg1; rw [decide_eq_false hb]; rfl
        rw [if_neg hb, if_pos (show nI 0 = 0 from rfl), e, if_neg (by decide)]
        simp only [nI_add]
    · unfold p_X7_swingsOf_L13
      dsimp only
      rw [if_pos (Int32.le_refl _)]
  unfold p_X7_swingsOf
  rw [feathersOn_eq hm (by decide) (by omega)]
  simp only [Option.bind_some]
  rw [key]
  rfl
theorem op_swings (R : Rel x0 x1 x3 x4 x5 x6 x8 s0 s1 s2 s3 g) (a b : Int32) : ∃ r, p_X6_swings x0 x1 a b = some r ∧ p_X7_swings g a b = some r := by
  obtain ⟨A, h, hk, hm, hR⟩ := R
  unfold p_X6_swings p_X7_swings
  rw [hasGoose_eq h, isGoose_eq hm.1, isOwner_eq, isOwnerM_eq]
  simp only [Option.bind_some, bI_0]
  cases hG : hasG (A 0 0) a with
  | false => exact ⟨-1, rfl, rfl⟩
  | true =>
    obtain ⟨k, hg, rfl⟩ := hasG_of (geese_lt hk) hG
    cases hO : wi b (nI 0) (nI 4) with
    | false => exact ⟨-1, rfl, rfl⟩
    | true =>
      obtain ⟨o, ho, rfl⟩ := wi_of (by decide) hO
      exact ⟨nI (swg A k o 32), by rw [ite_tf, ite_tf, setsSwungBy_eq h hk hg]; rfl, by rw [ite_tf, ite_tf, swingsOf_eq hm hk hg]; rfl⟩
theorem gcd_S (a b : Nat) : Nat.gcd b (a % b) = Nat.gcd a b := (Nat.gcd_comm b (a % b)).trans ((Nat.gcd_rec b a).symm.trans (Nat.gcd_comm b a))
theorem nzL_of {b : Nat} (h0 : b ≠ 0) (hb : b < 2 ^ 62) : nzL (lN b) = true := by
  unfold nzL
  exact decide_eq_true (fun z => h0 ((pk_lEQ (by omega) (by decide)).mp z))
theorem low_lp (u v : Int64) (w : Int32) : ∀ b a, a < 2 ^ 62 → b < 2 ^ 62 → lp (p_X7_lowest_L6 u v w) (lN a, lN b) = some (lN (Nat.gcd a b)) := by
  intro b
  induction b using Nat.strongRecOn with
  | _ b ih =>
    intro a ha hb
    rw [lp_eq]
    by_cases h0 : b = 0
    · subst h0
      have e : p_X7_lowest_L6 u v w (lN a, lN 0) = some (.inr (lN a)) := by
        unfold p_X7_lowest_L6
        dsimp only
        rw [if_pos ((lg_cmp_eq _ _).mpr rfl)]
      rw [e, Nat.gcd_zero_right]
      rfl
    · have e : p_X7_lowest_L6 u v w (lN a, lN b) = some (.inl (lN b, lN (a % b))) := by
        unfold p_X7_lowest_L6
        dsimp only
        rw [if_neg (fun z => h0 ((pk_lEQ (by omega) (by decide)).mp ((lg_cmp_eq _ _).mp z))), gd_t (nzL_of h0 hb), pk_lRem (by omega) (by omega) (by omega)]
      have hm := Nat.mod_lt a (show b > 0 by omega)
      rw [e]
      show lp (p_X7_lowest_L6 u v w) (lN b, lN (a % b)) = _
      rw [ih (a % b) hm b hb (by omega), gcd_S]
theorem com_0 (a i : Nat) : lp p_X6_commonDivisor_L9 (lN a, lN 0, nI i) = some (lN a) := by
  rw [lp_eq]
  have e : p_X6_commonDivisor_L9 (lN a, lN 0, nI i) = some (.inr (lN a)) := by
    unfold p_X6_commonDivisor_L9
    dsimp only
    rw [if_pos ((lg_cmp_eq (lN 0) (lN 0)).mpr rfl)]
    split <;> rfl
  rw [e]
  rfl
theorem com_s {a b i : Nat} (ha : a < 2 ^ 62) (hb : b < 2 ^ 62) (h0 : b ≠ 0) (hi : i < 200) : lp p_X6_commonDivisor_L9 (lN a, lN b, nI i) = lp p_X6_commonDivisor_L9 (lN b, lN (a % b), nI (i + 1)) := by
  rw [lp_eq]
  have e : p_X6_commonDivisor_L9 (lN a, lN b, nI i) = some (.inl (lN b, lN (a % b), nI (i + 1))) := by
    unfold p_X6_commonDivisor_L9
    dsimp only
    rw [if_neg (nI_ge hi (by decide)), if_neg (fun z => h0 ((pk_lEQ (by omega) (by decide)).mp ((lg_cmp_eq _ _).mp z))), gd_t (nzL_of h0 hb), pk_lRem (by omega) (by omega) (by omega), nI_add]
  rw [e]
  rfl
theorem com_lp : ∀ n i a b, a < 2 ^ 62 → b < 2 ^ 62 → b < 2 ^ n → i + 2 * n + 1 ≤ 200 → lp p_X6_commonDivisor_L9 (lN a, lN b, nI i) = some (lN (Nat.gcd a b))
  | 0, i, a, b, ha, hb, h, hi => by
    have : b = 0 := by
      have e : 2 ^ 0 = 1 := rfl
      omega
    subst this
    rw [com_0, Nat.gcd_zero_right]
  | n + 1, i, a, b, ha, hb, h, hi => by
    by_cases h0 : b = 0
    · subst h0
      rw [com_0, Nat.gcd_zero_right]
    · have hm := Nat.mod_lt a (show b > 0 by omega)
      rw [com_s ha hb h0 (by omega), ← gcd_S]
      generalize hr : a % b = r at hm
      by_cases h1 : r = 0
      · subst h1
        rw [com_0, Nat.gcd_zero_right]
      · have hm2 := Nat.mod_lt b (show r > 0 by omega)
        rw [com_s hb (by omega) h1 (by omega), ← gcd_S]
        have e2 : 2 ^ (n + 1) = 2 ^ n * 2 := Nat.pow_succ 2 n
        refine com_lp n (i + 2) r (b % r) (by omega) (by omega) ?_ (by omega)
        by_cases h2 : r ≤ 2 ^ n
        · omega
        · rw [Nat.mod_eq_sub_mod (show b ≥ r by omega), Nat.mod_eq_of_lt (by omega)]
          omega
theorem lowest_eq {a b : Nat} (ha : a < 2 ^ 62) (hb : b < 2 ^ 62) (h0 : 1 ≤ b) (w : Int32) : p_X7_lowest (lN a) (lN b) w = some (lN ((if w = 0 then a else b) / Nat.gcd a b)) := by
  have hg : 0 < Nat.gcd a b := Nat.gcd_pos_of_pos_right a h0
  have hl : Nat.gcd a b ≤ b := Nat.gcd_le_right a h0
  unfold p_X7_lowest p_X7_lowest_B41
  rw [low_lp _ _ _ b a ha hb]
  simp only [Option.bind_some]
  rw [gd_t (nzL_of (by omega) (by omega)), pk_lDiv (by omega) hg (by omega), gd_t (nzL_of (by omega) (by omega)), pk_lDiv (by omega) hg (by omega)]
  split <;> rfl
theorem partOfFraction_eq {a b : Nat} (ha : a < 2 ^ 62) (hb : b < 2 ^ 62) (h0 : 1 ≤ b) (w : Int32) : p_X6_partOfFraction (lN a) (lN b) w = some (lN ((if w = 0 then a else b) / Nat.gcd a b)) := by
  have hg : 0 < Nat.gcd a b := Nat.gcd_pos_of_pos_right a h0
  have hl : Nat.gcd a b ≤ b := Nat.gcd_le_right a h0
  unfold p_X6_partOfFraction p_X6_partOfFraction_B21 p_X6_commonDivisor
  rw [show (nI 0) = nI 0 from rfl, com_lp 62 0 a b ha hb hb (by decide)]
  simp only [Option.bind_some]
  rw [if_neg (show ¬ lN (Nat.gcd a b) < lN 1 from fun z => by have := (pk_lLT (by omega) (by decide)).mp z; omega), gd_t (nzL_of (by omega) (by omega)), pk_lDiv (by omega) hg (by omega), gd_t (nzL_of (by omega) (by omega)), pk_lDiv (by omega) hg (by omega)]
  split <;> rfl
theorem toL {n : Nat} (h : n < 2 ^ 31) : (nI n).toInt64 = lN n := Int32.toInt64_ofNat' (by rw [Int32.toInt_maxValue]; omega)
theorem op_power (R : Rel x0 x1 x3 x4 x5 x6 x8 s0 s1 s2 s3 g) (a b c : Int32) : ∃ r, p_X6_power x0 x1 a b c = some r ∧ p_X7_power g a b c = some r := by
  obtain ⟨A, h, hk, hm, hR⟩ := R
  unfold p_X6_power p_X7_power p_X6_power_B27 p_X7_power_B25
  rw [hasGoose_eq h, isGoose_eq hm.1, isOwner_eq, isOwnerM_eq, isWithin_eq, in_c01]
  simp only [Option.bind_some, bI_0]
  cases hG : hasG (A 0 0) a with
  | false => exact ⟨-1, rfl, rfl⟩
  | true =>
    obtain ⟨k, hg, rfl⟩ := hasG_of (geese_lt hk) hG
    rw [ite_tf, ite_tf]
    cases hO : wi b (nI 0) (nI 4) with
    | false => exact ⟨-1, rfl, rfl⟩
    | true =>
      obtain ⟨o, ho, rfl⟩ := wi_of (by decide) hO
      rw [ite_tf, ite_tf]
      cases hW : wi c (nI 0) (nI 1) with
      | false => exact ⟨-1, rfl, rfl⟩
      | true =>
        rw [ite_tf, ite_tf]
        have L1 : lp (p_X6_power_L37 x0 x1 (nI k) (nI o) c) (nI 0, nI 0) = some (nI (sumN (fun p => swg A k p 32) 5)) := by
          refine lp_for (fun i => (nI (sumN (fun p => swg A k p 32) i), nI i)) 5 (fun i hi => ?_) ?_
          · unfold p_X6_power_L37
            dsimp only
            rw [if_neg (nI_ge hi (by decide)), setsSwungBy_eq h hk hg]
            simp only [Option.bind_some, nI_add]
            rfl
          · unfold p_X6_power_L37
            dsimp only
            rw [if_pos (Int32.le_refl _)]
        have L2 : lp (p_X7_power_L35 g (nI k) (nI o) c) (nI 0, nI 0) = some (nI (sumN (fun p => swg A k p 32) 5)) := by
          refine lp_for (fun i => (nI (sumN (fun p => swg A k p 32) i), nI i)) 5 (fun i hi => ?_) ?_
          · unfold p_X7_power_L35
            dsimp only
            rw [if_neg (nI_ge hi (by decide)), swingsOf_eq hm hk hg]
            simp only [Option.bind_some, nI_add]
            rfl
          · unfold p_X7_power_L35
            dsimp only
            rw [if_pos (Int32.le_refl _)]
        have l1 : sumN (fun p => swg A k p 32) 5 ≤ 5 * 32 := sumN_le (m := 32) 5 (fun p _ => swg_le A k p 32)
        have l2 := swg_le A k o 32
        rw [L1, L2, setsSwungBy_eq h hk hg, swingsOf_eq hm hk hg]
        simp only [Option.bind_some]
        generalize sumN (fun p => swg A k p 32) 5 = s at l1
        generalize swg A k o 32 = t at l2
        unfold p_X7_power_B78
        rw [toL (show t < 2 ^ 31 by omega), toL (show s < 2 ^ 31 by omega)]
        by_cases hs : s = 0
        · subst hs
          rw [if_neg (by decide), if_pos (show nI 0 = 0 from rfl), toL (by decide), partOfFraction_eq (by omega) (by decide) (by decide), lowest_eq (by omega) (by decide) (by decide)]
          exact ⟨_, rfl, rfl⟩
        · rw [if_neg (fun z => hs ((nI_z (by omega)).mp z)), lowest_eq (by omega) (by omega) (by omega)]
          have e : (if nI 1 < nI s then nI s else nI 1) = nI s := by
            by_cases h1 : s = 1
            · subst h1; rfl
            · rw [if_pos ((nI_ltI (by decide) (by omega)).mpr (by omega))]
          rw [e, toL (by omega), partOfFraction_eq (by omega) (by omega) (by omega)]
          exact ⟨_, rfl, rfl⟩
end OPS8
