/-! ===== the calls, one by one: what to look at ===== -/
section OPSB
variable {x0 x1 x2 x3 x4 x5 x6 x7 x8 s0 s1 s2 s3 g : Mem} {A : Fk}
theorem bitP (P : Nat → Bool) {a : Nat} (ha : a < 4) : bitO (bitsI P 4) a = bI (P a) := by
  unfold bitO
  simp only [bitsI]
  generalize h0 : P 0 = p0
  generalize h1 : P 1 = p1
  generalize h2 : P 2 = p2
  generalize h3 : P 3 = p3
  rcases (show a = 0 ∨ a = 1 ∨ a = 2 ∨ a = 3 by omega) with rfl | rfl | rfl | rfl
  · rw [h0]; cases p0 <;> cases p1 <;> cases p2 <;> cases p3 <;> decide
  · rw [h1]; cases p0 <;> cases p1 <;> cases p2 <;> cases p3 <;> decide
  · rw [h2]; cases p0 <;> cases p1 <;> cases p2 <;> cases p3 <;> decide
  · rw [h3]; cases p0 <;> cases p1 <;> cases p2 <;> cases p3 <;> decide
theorem and_1 (p q : Int32) : (p &&& q) &&& nI 1 = (p &&& nI 1) &&& (q &&& nI 1) := by
  have e : nI 1 &&& nI 1 = nI 1 := by decide
  rw [Int32.and_assoc p (nI 1), ← Int32.and_assoc (nI 1) q, Int32.and_comm (nI 1) q, Int32.and_assoc q, e, ← Int32.and_assoc]
theorem bI_and (p q : Bool) : bI p &&& bI q = bI (p && q) := by cases p <;> cases q <;> decide
theorem bI_1 (p : Bool) : bI p = nI 1 ↔ p = true := by cases p <;> simp [bI] <;> decide
/-- the ways that are alike to one, at a look -/
def alk (P : Nat → Bool) (V : Nat → Nat) (a : Nat) : Nat → Nat := sumN (fun b => if (P a && P b && decide (V a = V b)) = true then 1 else 0)
def mxk (P : Nat → Bool) (V : Nat → Nat) : Nat → Nat
  | 0 => 0
  | a + 1 => max (mxk P V a) (alk P V a 4)
theorem alk_le (P : Nat → Bool) (V : Nat → Nat) (a n : Nat) : alk P V a n ≤ n := by
  have := sumN_le (f := fun b => if (P a && P b && decide (V a = V b)) = true then 1 else 0) (m := 1) n (fun i _ => by split <;> omega)
  unfold alk
  omega
theorem mxk_le (P : Nat → Bool) (V : Nat → Nat) : ∀ n, mxk P V n ≤ 4
  | 0 => by unfold mxk; omega
  | n + 1 => by
    have h1 := mxk_le P V n
    have h2 := alk_le P V n 4
    unfold mxk
    omega
theorem alk_S (P : Nat → Bool) (V : Nat → Nat) (a n : Nat) : alk P V a (n + 1) = alk P V a n + if (P a && P n && decide (V a = V n)) = true then 1 else 0 := rfl
theorem mxk_S (P : Nat → Bool) (V : Nat → Nat) (n : Nat) : mxk P V (n + 1) = max (mxk P V n) (alk P V n 4) := rfl
theorem mostKindsAlike_eq {f : Mem} {P : Nat → Bool} {V : Nat → Nat} {w o : Nat} (hw : w ≤ 20) (ho : o < 5) (hV : ∀ a, a < 4 → V a ≤ 99 ∧ f 2 (105 * a + 5 * w + o) = nI (V a)) : p_X6_mostKindsAlike f (bitsI P 4) (nI w) (nI o) = some (nI (mxk P V 4)) := by
  have inner : ∀ a, a < 4 → ∀ y, lp (p_X6_mostKindsAlike_L18 f (bitsI P 4) (nI w) (nI o) y (nI a)) (nI 0, nI 0) = some (nI (alk P V a 4)) := fun a ha y => by
    refine lp_for (fun i => (nI (alk P V a i), nI i)) 4 (fun i hi => ?_) ?_
    · obtain ⟨va1, va2⟩ := hV a ha
      obtain ⟨vi1, vi2⟩ := hV i hi
      unfold p_X6_mostKindsAlike_L18
      dsimp only
      rw [if_neg (nI_ge hi (by decide)), and_1]
      rw [show (bitsI P 4 >>> (nI a &&& 31)) &&& nI 1 = bitO (bitsI P 4) a from rfl, show (bitsI P 4 >>> (nI i &&& 31)) &&& nI 1 = bitO (bitsI P 4) i from rfl, bitP P ha, bitP P hi, bI_and, alk_S]
      unfold p_X6_mostKindsAlike_B44 p_X6_placeByKind
      cases hPP : (P a && P i) with
      | false => rw [if_neg (by decide), if_pos (show nI 0 = 0 from rfl), nI_add, Bool.false_and, if_neg (by decide)]; rfl
      | true =>
        rw [if_pos (show bI true = nI 1 from rfl), if_neg (show ¬ nI 1 = 0 by decide)]
        simp only [Option.bind_some, pk_mul, nI_add]
        rw [gd_t (inb_nI (by omega) (by decide)), gd_t (inb_nI (by omega) (by decide)), nI_clamp (by omega), nI_clamp (by omega), show (a * 21 + w) * 5 + o = 105 * a + 5 * w + o by omega, show (i * 21 + w) * 5 + o = 105 * i + 5 * w + o by omega, va2, vi2, Bool.true_and]
        by_cases hv : V a = V i
        · rw [if_pos (by rw [hv]), decide_eq_true hv, if_pos rfl]
        · rw [if_neg (fun z => hv ((nI_eq (by omega) (by omega)).mp z)), decide_eq_false hv, if_neg (by decide)]; rfl
    · unfold p_X6_mostKindsAlike_L18
      dsimp only
      rw [if_pos (Int32.le_refl _)]
  have key : lp (p_X6_mostKindsAlike_L6 f (bitsI P 4) (nI w) (nI o)) (nI 0, nI 0) = some (nI (mxk P V 4)) := by
    refine lp_for (fun i => (nI (mxk P V i), nI i)) 4 (fun i hi => ?_) ?_
    · have l1 := mxk_le P V i
      have l2 := alk_le P V i 4
      unfold p_X6_mostKindsAlike_L6
      dsimp only
      rw [if_neg (nI_ge hi (by decide)), inner i hi]
      simp only [Option.bind_some]
      rw [nI_add, mxk_S, i32_ite (nI_ltI (by omega) (by omega))]
      congr 4
      split <;> omega
    · unfold p_X6_mostKindsAlike_L6
      dsimp only
      rw [if_pos (Int32.le_refl _)]
  unfold p_X6_mostKindsAlike
  rw [key]
  rfl
theorem lookWorst_eq {f : Mem} {P : Nat → Bool} {V : Nat → Nat} {t : Nat} (ht : t < 105) (hV : ∀ a, a < 4 → V a ≤ 99 ∧ f 7 (105 * a + t) = nI (V a)) (y2 y4 y5 : Int32) : lp (p_X7_look_L52 f y2 (bitsI P 4) y4 y5 (nI t)) (nI 0, nI 0) = some (nI (mxk P V 4)) := by
  have inner : ∀ a, a < 4 → ∀ y, lp (p_X7_look_L64 f y2 (bitsI P 4) y4 y5 (nI t) y (nI a)) (nI 0, nI 0) = some (nI (alk P V a 4)) := fun a ha y => by
    cases hPa : P a with
    | false =>
      have e0 : alk P V a 4 = 0 := by
        unfold alk
        rw [sumN_0]
        intro b _
        rw [hPa, Bool.false_and, Bool.false_and, if_neg (by decide)]
      rw [lp_eq]
      have e1 : p_X7_look_L64 f y2 (bitsI P 4) y4 y5 (nI t) y (nI a) (nI 0, nI 0) = some (.inr (nI 0)) := by
        unfold p_X7_look_L64
        dsimp only
        rw [if_neg (nI_ge (a := 0) (b := 4) (by decide) (by decide)), show (bitsI P 4 >>> (nI a &&& 31)) &&& nI 1 = bitO (bitsI P 4) a from rfl, bitP P ha, hPa, if_neg (by decide)]
      rw [e1, e0]
      rfl
    | true =>
      refine lp_for (fun i => (nI (alk P V a i), nI i)) 4 (fun i hi => ?_) ?_
      · obtain ⟨va1, va2⟩ := hV a ha
        obtain ⟨vi1, vi2⟩ := hV i hi
        unfold p_X7_look_L64
        dsimp only
        rw [if_neg (nI_ge hi (by decide)), show (bitsI P 4 >>> (nI a &&& 31)) &&& nI 1 = bitO (bitsI P 4) a from rfl, show (bitsI P 4 >>> (nI i &&& 31)) &&& nI 1 = bitO (bitsI P 4) i from rfl, bitP P ha, bitP P hi, alk_S, hPa, if_pos (show bI true = nI 1 from rfl), Bool.true_and]
        cases hPi : P i with
        | false => rw [if_neg (by decide), Bool.false_and, if_neg (by decide), nI_add, nI_add]
        | true =>
          rw [if_pos (show bI true = nI 1 from rfl), pk_mul, pk_mul, nI_add, nI_add, gd_t (inb_nI (by omega) (by decide)), gd_t (inb_nI (by omega) (by decide)), nI_clamp (by omega), nI_clamp (by omega), va2, vi2, Bool.true_and]
          by_cases hv : V a = V i
          · rw [if_pos (by rw [hv]), decide_eq_true hv, if_pos rfl, nI_add, nI_add]
          · rw [if_neg (fun z => hv ((nI_eq (by omega) (by omega)).mp z)), decide_eq_false hv, if_neg (by decide), nI_add, nI_add]
      · unfold p_X7_look_L64
        dsimp only
        rw [if_pos (Int32.le_refl _)]
  refine lp_for (fun i => (nI (mxk P V i), nI i)) 4 (fun i hi => ?_) ?_
  · have l1 := mxk_le P V i
    have l2 := alk_le P V i 4
    unfold p_X7_look_L52 p_X7_look_B135
    dsimp only
    rw [if_neg (nI_ge hi (by decide)), inner i hi]
    simp only [Option.bind_some]
    rw [nI_add, mxk_S]
    by_cases hc : alk P V i 4 ≤ mxk P V i
    · rw [if_pos ((nI_leI (by omega) (by omega)).mpr hc), Nat.max_eq_left hc]
    · rw [if_neg (fun z => hc ((nI_leI (by omega) (by omega)).mp z)), Nat.max_eq_right (by omega)]
  · unfold p_X7_look_L52
    dsimp only
    rw [if_pos (Int32.le_refl _)]
/-- the bits that are set -/
theorem bitsOf_eq (x : Int32) : p_X7_bitsOf x = some (nI (sumN (fun i => if bitO x i = nI 1 then 1 else 0) 5)) := by
  have key : lp (p_X7_bitsOf_L4 x) (nI 0, nI 0) = some (nI (sumN (fun i => if bitO x i = nI 1 then 1 else 0) 5)) := by
    refine lp_for (fun j => (nI (sumN (fun i => if bitO x i = nI 1 then 1 else 0) j), nI j)) 5 (fun j hj => ?_) ?_
    · unfold p_X7_bitsOf_L4
      dsimp only
      rw [if_neg (nI_ge hj (by decide)), show (x >>> (nI j &&& 31)) &&& nI 1 = bitO x j from rfl, nI_add]
      have e : sumN (fun i => if bitO x i = nI 1 then 1 else 0) (j + 1) = sumN (fun i => if bitO x i = nI 1 then 1 else 0) j + if bitO x j = nI 1 then 1 else 0 := rfl
      rw [e]
      rcases bitO_01 x j with hb | hb
      · rw [hb, if_neg (by decide), nI_add]
      · rw [hb, if_pos rfl, nI_add]
    · unfold p_X7_bitsOf_L4
      dsimp only
      rw [if_pos (Int32.le_refl _)]
  unfold p_X7_bitsOf
  rw [key]
  rfl
end OPSB
