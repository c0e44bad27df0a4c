/-! ===== the calls, one by one: luck, mean ===== -/
section OPSH
variable {x0 x1 x2 x3 x4 x5 x6 x7 x8 s0 s1 s2 s3 g : Mem} {A : Fk}
theorem raised_eq {b n : Nat} (hb : b < 2 ^ 31) (hn : n < 2 ^ 31) : p_X6_raised (nI b) (nI n) = some (lN (b ^ n)) := by
  have key : lp (p_X6_raised_L5 (nI b) (nI n)) (lN 1, nI 0) = some (lN (b ^ n)) := by
    refine lp_for (fun i => (lN (b ^ i), nI i)) n (fun i hi => ?_) ?_
    · unfold p_X6_raised_L5
      dsimp only
      rw [if_neg (nI_ge hi hn), toL hb, lN_mul, nI_add, Nat.pow_succ]
    · unfold p_X6_raised_L5
      dsimp only
      rw [if_pos (Int32.le_refl _)]
  unfold p_X6_raised
  rw [key]
  rfl
def chs (d : Nat) : Nat → Nat
  | 0 => 1
  | i + 1 => chs d i * (d + (i + 1)) / (i + 1)
theorem chs_S (d i : Nat) : chs d (i + 1) = chs d i * (d + (i + 1)) / (i + 1) := rfl
theorem chs_le : ∀ d, d < 9 → ∀ i, i < 9 → chs d i < 100000 := by decide +kernel
theorem chs_bin : ∀ n, n < 9 → ∀ m, m < n + 1 → chs (n - m) m = bin n m := by decide +kernel
theorem ways_eq {v n m : Nat} (hv : v ≤ 10) (hn : n ≤ 8) (hm : m ≤ n) : p_X6_waysToMoult (nI v) (nI n) (nI m) = some (lN (bin n m * v ^ m * (10 - v) ^ (n - m))) := by
  have key : lp (p_X6_waysToMoult_L5 (nI v) (nI n) (nI m)) (lN 1, nI 1) = some (lN (chs (n - m) m)) := by
    refine lp_for (fun i => (lN (chs (n - m) i), nI (i + 1))) m (fun i hi => ?_) ?_
    · have hc := chs_le (n - m) (by omega) i (by omega)
      have hp : chs (n - m) i * (n - m + (i + 1)) ≤ 100000 * 20 := Nat.mul_le_mul (by omega) (by omega)
      unfold p_X6_waysToMoult_L5
      dsimp only
      rw [if_neg (fun z => by have := (nI_ltI (by omega) (by omega)).mp z; omega), pk_sub hm, nI_add, toL (show i + 1 < 2 ^ 31 by omega), toL (by omega), gd_t (nzL_of (by omega) (by omega)), lN_mul, pk_lDiv (by omega) (by omega) (by omega), nI_add, chs_S]
    · unfold p_X6_waysToMoult_L5
      dsimp only
      rw [if_pos ((nI_ltI (by omega) (by omega)).mpr (by omega))]
  unfold p_X6_waysToMoult
  rw [key]
  simp only [Option.bind_some]
  rw [raised_eq (by omega) (by omega), pk_sub hv, pk_sub hm, raised_eq (by omega) (by omega)]
  simp only [Option.bind_some]
  rw [lN_mul, lN_mul, chs_bin n (by omega) m (by omega)]
theorem bitO_nI {s k : Nat} (hs : s < 2 ^ 31) (hk : k < 32) : bitO (nI s) k = nI (s / 2 ^ k % 2) := by
  have h1 : ∀ k, k < 32 → ((nI k &&& 31).toBitVec.smod 32).toNat = k := by decide +kernel
  unfold bitO
  rw [pk_shrN hs (nI k &&& 31) k (h1 k hk), pk_andN (by have := Nat.div_le_self s (2 ^ k); omega) 1 (by decide)]
theorem shl_1 {n : Nat} (hn : n ≤ 8) : (nI 1) <<< (nI n &&& 31) = nI (2 ^ n) := by
  have h : ∀ n, n < 9 → (nI 1) <<< (nI n &&& 31) = nI (2 ^ n) := by decide +kernel
  exact h n (by omega)
theorem pow2_le {n : Nat} (hn : n ≤ 8) : 2 ^ n ≤ 256 := by
  have h : ∀ n, n < 9 → 2 ^ n ≤ 256 := by decide
  exact h n (by omega)
theorem pow10_le {n : Nat} (hn : n ≤ 8) : 1 ≤ 10 ^ n ∧ 10 ^ n ≤ 100000000 := by
  have h : ∀ n, n < 9 → 1 ≤ 10 ^ n ∧ 10 ^ n ≤ 100000000 := by decide
  exact h n (by omega)
theorem moultsIn_eq {f : Mem} (hm : MS f 240 A) (hk : okF A) (hf : Keep g f) {v n s : Nat} (hv : v ≤ 10) (hn : n ≤ 8) (hs : s < 2 ^ n) (y2 y3 y5 : Int32) (y6 y8 : Int64) : ∃ f', lp (p_X7_byMoults_L56 (nI v) y2 y3 (nI n) y5 y6 y8 (nI s)) (lN 1, nI 0, f) = some (lN (oddK (10 - v) v s n), f') ∧ MS f' 240 (Wk A s n) ∧ Keep g f' := by
  have hp := pow2_le hn
  obtain ⟨x, hx, hQ⟩ := lp_ex (b := p_X7_byMoults_L56 (nI v) y2 y3 (nI n) y5 y6 y8 (nI s)) (I := fun i z => z.1 = lN (oddK (10 - v) v s i) ∧ z.2.1 = nI i ∧ MS z.2.2 240 (Wk A s i) ∧ Keep g z.2.2) (Q := fun z => z.1 = lN (oddK (10 - v) v s n) ∧ MS z.2 240 (Wk A s n) ∧ Keep g z.2) n
    (fun i hi z hz => by
      obtain ⟨z1, z2, z3⟩ := z
      obtain ⟨rfl, rfl, e3, e4⟩ := hz
      dsimp only at e3 e4
      have hb := bitO_nI (s := s) (k := i) (by omega) (by omega)
      obtain ⟨g', u1, u2, u3⟩ := weekOn_eq (m := decide (s / 2 ^ i % 2 = 1)) e3 (okF_Wk hk s i) (by decide)
      refine ⟨(lN (oddK (10 - v) v s (i + 1)), nI (i + 1), g'), ?_, rfl, rfl, u2, Keep_tr e4 (Fr_Keep u3 (by decide))⟩
      unfold p_X7_byMoults_L56 p_X7_byMoults_B79 p_X7_byMoults_B98
      dsimp only
      rw [if_neg (nI_ge hi (by omega)), show (nI s >>> (nI i &&& 31)) &&& nI 1 = bitO (nI s) i from rfl, hb, oddK_S]
      by_cases hc : s / 2 ^ i % 2 = 1
      · rw [decide_eq_true hc] at u1
        rw [hc, if_pos rfl, if_neg (by decide), show nI 1 = bI true from rfl, u1, if_pos rfl]
        simp only [Option.bind_some]
        rw [toL (by omega), lN_mul, show bI true = nI 1 from rfl, nI_add]
      · rw [decide_eq_false hc] at u1
        have h0 : s / 2 ^ i % 2 = 0 := by omega
        rw [h0, if_neg (by decide), if_pos (show nI 0 = 0 from rfl), show p_X7_weekOn z3 (nI 240) (nI 0) = p_X7_weekOn z3 (nI 240) (bI false) from rfl, u1, if_neg (by decide)]
        simp only [Option.bind_some]
        rw [pk_sub hv, toL (by omega), lN_mul, nI_add])
    (fun z hz => by
      obtain ⟨z1, z2, z3⟩ := z
      obtain ⟨rfl, rfl, e3, e4⟩ := hz
      refine ⟨(lN (oddK (10 - v) v s n), z3), ?_, rfl, e3, e4⟩
      unfold p_X7_byMoults_L56
      dsimp only
      rw [if_pos (Int32.le_refl _)]) (i := 0) (s := (lN 1, nI 0, f)) (by omega) ⟨rfl, rfl, hm, hf⟩
  obtain ⟨x1, x2⟩ := x
  obtain ⟨e1, e2, e3⟩ := hQ
  dsimp only at e1 e2 e3
  subst e1
  exact ⟨x2, hx, e2, e3⟩
theorem byMoults_eq (hm : MS g 0 A) (hk : okF A) {k v n : Nat} (hg : k < A 0 0) (hv : v ≤ 10) (hn : n ≤ 8) (y3 w : Int32) (e : Nat → Nat) (hM : ∀ m, e m ≤ 495) (hE : (y3 = -4 ∧ ∀ m, e m = feath (weeks true A m).1 k) ∨ (∃ o, o < 5 ∧ y3 = nI o ∧ ∀ m, e m = if egg (weeks true A m).1 k = o then 1 else 0)) : ∃ g', p_X7_byMoults g (nI v) (nI k) y3 (nI n) w = some (lN ((if w = 0 then Hh (10 - v) v n e else 10 ^ n) / Nat.gcd (Hh (10 - v) v n e) (10 ^ n)), g') ∧ Keep g g' := by
  have h3 := hk.1.1
  have hp := pow2_le hn
  obtain ⟨hp1, hp2⟩ := pow10_le hn
  have L1 : lp (p_X7_byMoults_L9 g (nI v) (nI k) y3 (nI n) w (lN 0)) (lN 1, nI 0) = some (lN (10 ^ n)) := by
    refine lp_for (fun i => (lN (10 ^ i), nI i)) n (fun i hi => ?_) ?_
    · unfold p_X7_byMoults_L9
      dsimp only
      rw [if_neg (nI_ge hi (by omega)), show (10 : Int64) = lN 10 from rfl, lN_mul, nI_add, Nat.pow_succ]
    · unfold p_X7_byMoults_L9
      dsimp only
      rw [if_pos (Int32.le_refl _)]
  obtain ⟨x, hx, hQ⟩ := lp_ex (b := p_X7_byMoults_L33 (nI v) (nI k) y3 (nI n) w (lN (10 ^ n))) (I := fun i z => z.1 = lN (sumN (fun s => oddK (10 - v) v s n * e (cntK s n)) i) ∧ z.2.1 = nI i ∧ Keep g z.2.2) (Q := fun z => z.1 = lN (sumN (fun s => oddK (10 - v) v s n * e (cntK s n)) (2 ^ n)) ∧ Keep g z.2) (2 ^ n)
    (fun i hi z hz => by
      obtain ⟨z1, z2, z3⟩ := z
      obtain ⟨rfl, rfl, e4⟩ := hz
      dsimp only at e4
      have m0 := MS_Keep hk hm e4
      obtain ⟨g1, t1, t2, t3⟩ := copyOn_eq (b := 240) hk m0 (by decide) (by decide) (.inl (by decide))
      obtain ⟨f2, u1, u2, u3⟩ := moultsIn_eq t2 hk (Keep_tr e4 (Fr_Keep t3 (by decide))) hv hn hi (nI k) y3 w (lN (sumN (fun s => oddK (10 - v) v s n * e (cntK s n)) i)) (lN (10 ^ n))
      have okw := okF_Wk hk i n
      have hg2 : k < Wk A i n 0 0 := by rw [Wk_00]; exact hg
      have ce := Wk_CE A i n
      have fin : p_X7_byMoults_B155 f2 (nI v) (nI k) y3 (nI n) w (lN (10 ^ n)) (nI i) (nI (e (cntK i n))) (lN (oddK (10 - v) v i n)) (lN (sumN (fun s => oddK (10 - v) v s n * e (cntK s n)) i)) = some (.inl (lN (sumN (fun s => oddK (10 - v) v s n * e (cntK s n)) (i + 1)), nI (i + 1), f2)) := by
        have hM2 := hM (cntK i n)
        unfold p_X7_byMoults_B155
        rw [toL (by omega), lN_mul, lN_add, nI_add]
        rfl
      refine ⟨(lN (sumN (fun s => oddK (10 - v) v s n * e (cntK s n)) (i + 1)), nI (i + 1), f2), ?_, rfl, rfl, u3⟩
      rw [← fin]
      unfold p_X7_byMoults_L33
      dsimp only
      rw [shl_1 hn, if_neg (nI_ge hi (by omega)), t1]
      simp only [Option.bind_some]
      rw [u1]
      simp only [Option.bind_some]
      rcases hE with ⟨rfl, he⟩ | ⟨o, ho, rfl, he⟩
      · rw [if_pos rfl, feathersOn_eq u2 (by decide) (by omega), he, CE_feath ce]
        rfl
      · have hle := egg_le okw hg2
        rw [if_neg (nI_m (by omega) (by decide)), eggOn_eq u2 okw (by decide) hg2, he]
        simp only [Option.bind_some]
        rw [← CE_egg ce]
        by_cases hc : egg (Wk A i n) k = o
        · rw [if_pos ((eI_eq hle ho).mpr hc), if_pos hc]
        · rw [if_neg (fun z => hc ((eI_eq hle ho).mp z)), if_neg hc])
    (fun z hz => by
      obtain ⟨z1, z2, z3⟩ := z
      obtain ⟨rfl, rfl, e4⟩ := hz
      refine ⟨(lN (sumN (fun s => oddK (10 - v) v s n * e (cntK s n)) (2 ^ n)), z3), ?_, rfl, e4⟩
      unfold p_X7_byMoults_L33
      dsimp only
      rw [shl_1 hn, if_pos (Int32.le_refl _)]) (i := 0) (s := (lN 0, nI 0, g)) (Nat.zero_le _) ⟨rfl, rfl, Keep_rfl g⟩
  obtain ⟨y1, y2⟩ := x
  obtain ⟨e1, e2⟩ := hQ
  dsimp only at e1 e2
  rw [F_H] at e1
  subst e1
  have hb := Hh_le (u := 10 - v) (v := v) (M := 495) (by omega) n e hM
  have hb2 : 10 ^ n * 495 ≤ 100000000 * 495 := Nat.mul_le_mul_right 495 hp2
  refine ⟨y2, ?_, e2⟩
  unfold p_X7_byMoults
  rw [L1]
  simp only [Option.bind_some]
  rw [hx]
  simp only [Option.bind_some]
  rw [lowest_eq (by omega) (by omega) hp1]
  rfl
theorem areOdds_eq (a b : Int32) : p_X6_areOdds a b = some (bI (wi a (nI 0) (nI 10) && wi b (nI 0) (nI 8))) := by
  unfold p_X6_areOdds
  rw [isWithin_eq, isWithin_eq]
  simp only [Option.bind_some, bI_0]
  cases wi a (nI 0) (nI 10) <;> cases wi b (nI 0) (nI 8) <;> rfl
theorem op_luck (R : Rel x0 x1 x3 x4 x5 x6 x8 s0 s1 s2 s3 g) (x2 : Mem) (a b c d q : Int32) : ∃ r x2' g', p_X6_luck x0 x1 x2 a b c d q = some (r, x2') ∧ p_X7_luck g a b c d q = some (r, g') ∧ Rel x0 x1 x3 x4 x5 x6 x8 s0 s1 s2 s3 g' := by
  have R0 := R
  obtain ⟨A, h, hk, hm, hR⟩ := R
  unfold p_X6_luck p_X7_luck p_X6_luck_B37 p_X7_luck_B65
  rw [areOdds_eq, hasGoose_eq h, isOwner_eq, isWithin_eq, in_c0 10 (by decide), isGoose_eq hm.1, isOwnerM_eq, in_c0 8 (by decide), in_c01]
  simp only [Option.bind_some, bI_0]
  cases hV : wi a (nI 0) (nI 10) with
  | false => exact ⟨-1, x2, g, rfl, rfl, R0⟩
  | true =>
    obtain ⟨v, hv, rfl⟩ := wi_of (by decide) hV
    cases hN : wi d (nI 0) (nI 8) with
    | false =>
      refine ⟨-1, x2, g, rfl, ?_, R0⟩
      rw [ite_tf]
      cases hasG (A 0 0) b with
      | false => rfl
      | true =>
        cases wi c (nI 0) (nI 4) with
        | false => rfl
        | true => rfl
    | true =>
      obtain ⟨n, hn, rfl⟩ := wi_of (by decide) hN
      rw [Bool.and_self, ite_tf, ite_tf]
      cases hG : hasG (A 0 0) b with
      | false => exact ⟨-1, x2, g, rfl, rfl, R0⟩
      | true =>
        obtain ⟨k, hg, rfl⟩ := hasG_of (geese_lt hk) hG
        rw [ite_tf, ite_tf]
        cases hO : wi c (nI 0) (nI 4) with
        | false => exact ⟨-1, x2, g, rfl, rfl, R0⟩
        | true =>
          obtain ⟨o, ho, rfl⟩ := wi_of (by decide) hO
          rw [ite_tf, ite_tf, ite_tf]
          cases hW : wi q (nI 0) (nI 1) with
          | false => exact ⟨-1, x2, g, rfl, rfl, R0⟩
          | true =>
            obtain ⟨f1, c1, c2⟩ := copyFrom_eq (f := x2) h hk
            obtain ⟨g', u1, u2⟩ := byMoults_eq hm hk hg hv hn (nI o) q (fun m => if egg (weeks true A m).1 k = o then 1 else 0) (fun m => by split <;> omega) (.inr ⟨o, by omega, rfl, fun _ => rfl⟩)
            obtain ⟨hp1, hp2⟩ := pow10_le hn
            rw [ite_tf, ite_tf, c1, u1]
            simp only [Option.bind_some]
            obtain ⟨x, hx, hQ⟩ := lp_ex (b := p_X6_luck_L58 x0 x1 (nI v) (nI k) (nI o) (nI n) q) (I := fun i z => z.1 = lN (sumN (fun m => bin n m * v ^ m * (10 - v) ^ (n - m) * (if egg (weeks true A m).1 k = o then 1 else 0)) i) ∧ z.2.1 = nI i ∧ enc z.2.2 (weeks true A i).1) (Q := fun z => z.1 = lN (sumN (fun m => bin n m * v ^ m * (10 - v) ^ (n - m) * (if egg (weeks true A m).1 k = o then 1 else 0)) (n + 1))) (n + 1)
              (fun i hi z hz => by
                obtain ⟨z1, z2, z3⟩ := z
                obtain ⟨rfl, rfl, e4⟩ := hz
                dsimp only at e4
                have okw := okF_weeks (m := true) hk i
                have hg2 : k < (weeks true A i).1 0 0 := by rw [weeks_00]; exact hg
                have hle := egg_le okw hg2
                obtain ⟨f', v1, v2⟩ := passWeek_eq e4 okw
                refine ⟨(lN (sumN (fun m => bin n m * v ^ m * (10 - v) ^ (n - m) * (if egg (weeks true A m).1 k = o then 1 else 0)) (i + 1)), nI (i + 1), f'), ?_, rfl, rfl, v2⟩
                have eS : sumN (fun m => bin n m * v ^ m * (10 - v) ^ (n - m) * (if egg (weeks true A m).1 k = o then 1 else 0)) (i + 1) = sumN (fun m => bin n m * v ^ m * (10 - v) ^ (n - m) * (if egg (weeks true A m).1 k = o then 1 else 0)) i + bin n i * v ^ i * (10 - v) ^ (n - i) * (if egg (weeks true A i).1 k = o then 1 else 0) := rfl
                rw [eS]
                unfold p_X6_luck_L58 p_X6_luck_B90
                dsimp only
                rw [if_neg (fun z => by have := (nI_ltI (by omega) (by omega)).mp z; omega), eggOwner_eq e4 okw hg2, v1]
                simp only [Option.bind_some]
                by_cases hc : egg (weeks true A i).1 k = o
                · rw [if_pos ((eI_eq hle (by omega)).mpr hc), ways_eq hv hn (by omega), if_pos hc]
                  simp only [Option.bind_some]
                  rw [lN_add, nI_add, Nat.mul_one]
                · rw [if_neg (fun z => hc ((eI_eq hle (by omega)).mp z)), if_neg hc, nI_add, Nat.mul_zero]
                  rfl)
              (fun z hz => by
                obtain ⟨z1, z2, z3⟩ := z
                obtain ⟨rfl, rfl, e4⟩ := hz
                refine ⟨(lN (sumN (fun m => bin n m * v ^ m * (10 - v) ^ (n - m) * (if egg (weeks true A m).1 k = o then 1 else 0)) (n + 1)), z3), ?_, rfl⟩
                unfold p_X6_luck_L58
                dsimp only
                rw [if_pos ((nI_ltI (by omega) (by omega)).mpr (by omega))]) (i := 0) (s := (lN 0, nI 0, f1)) (by omega) ⟨rfl, rfl, c2⟩
            obtain ⟨y1, y2⟩ := x
            dsimp only at hQ
            rw [← Hh_bin (10 - v) v n (fun m => if egg (weeks true A m).1 k = o then 1 else 0)] at hQ
            subst hQ
            have hb := Hh_le (u := 10 - v) (v := v) (M := 495) (by omega) n (fun m => if egg (weeks true A m).1 k = o then 1 else 0) (fun m => by split <;> omega)
            have hb2 : 10 ^ n * 495 ≤ 100000000 * 495 := Nat.mul_le_mul_right 495 hp2
            rw [hx]
            simp only [Option.bind_some]
            rw [raised_eq (by omega) (by omega)]
            simp only [Option.bind_some]
            rw [partOfFraction_eq (by omega) (by omega) hp1]
            exact ⟨_, y2, g', rfl, rfl, Rel_Keep R0 u2⟩
theorem op_mean (R : Rel x0 x1 x3 x4 x5 x6 x8 s0 s1 s2 s3 g) (x2 : Mem) (a b d q : Int32) : ∃ r x2' g', p_X6_mean x0 x1 x2 a b d q = some (r, x2') ∧ p_X7_mean g a b d q = some (r, g') ∧ Rel x0 x1 x3 x4 x5 x6 x8 s0 s1 s2 s3 g' := by
  have R0 := R
  obtain ⟨A, h, hk, hm, hR⟩ := R
  unfold p_X6_mean p_X7_mean p_X6_mean_B29 p_X7_mean_B57
  rw [areOdds_eq, hasGoose_eq h, isWithin_eq, in_c0 10 (by decide), isGoose_eq hm.1, in_c0 8 (by decide), in_c01]
  simp only [Option.bind_some, bI_0]
  cases hV : wi a (nI 0) (nI 10) with
  | false => exact ⟨-1, x2, g, rfl, rfl, R0⟩
  | true =>
    obtain ⟨v, hv, rfl⟩ := wi_of (by decide) hV
    cases hN : wi d (nI 0) (nI 8) with
    | false =>
      refine ⟨-1, x2, g, rfl, ?_, R0⟩
      rw [ite_tf]
      cases hasG (A 0 0) b with
      | false => rfl
      | true => rfl
    | true =>
      obtain ⟨n, hn, rfl⟩ := wi_of (by decide) hN
      rw [Bool.and_self, ite_tf, ite_tf]
      cases hG : hasG (A 0 0) b with
      | false => exact ⟨-1, x2, g, rfl, rfl, R0⟩
      | true =>
        obtain ⟨k, hg, rfl⟩ := hasG_of (geese_lt hk) hG
        rw [ite_tf, ite_tf, ite_tf]
        cases hW : wi q (nI 0) (nI 1) with
        | false => exact ⟨-1, x2, g, rfl, rfl, R0⟩
        | true =>
          have hM : ∀ m, feath (weeks true A m).1 k ≤ 495 := fun m => feath_le (okF_weeks (m := true) hk m) (by rw [weeks_00]; exact hg)
          obtain ⟨f1, c1, c2⟩ := copyFrom_eq (f := x2) h hk
          obtain ⟨g', u1, u2⟩ := byMoults_eq hm hk hg hv hn (-4) q (fun m => feath (weeks true A m).1 k) hM (.inl ⟨rfl, fun _ => rfl⟩)
          obtain ⟨hp1, hp2⟩ := pow10_le hn
          rw [ite_tf, ite_tf, c1, u1]
          simp only [Option.bind_some]
          obtain ⟨x, hx, hQ⟩ := lp_ex (b := p_X6_mean_L50 x0 x1 (nI v) (nI k) (nI n) q) (I := fun i z => z.1 = lN (sumN (fun m => bin n m * v ^ m * (10 - v) ^ (n - m) * feath (weeks true A m).1 k) i) ∧ z.2.1 = nI i ∧ enc z.2.2 (weeks true A i).1) (Q := fun z => z.1 = lN (sumN (fun m => bin n m * v ^ m * (10 - v) ^ (n - m) * feath (weeks true A m).1 k) (n + 1))) (n + 1)
            (fun i hi z hz => by
              obtain ⟨z1, z2, z3⟩ := z
              obtain ⟨rfl, rfl, e4⟩ := hz
              dsimp only at e4
              have okw := okF_weeks (m := true) hk i
              have hg2 : k < (weeks true A i).1 0 0 := by rw [weeks_00]; exact hg
              have hM2 := hM i
              obtain ⟨f', v1, v2⟩ := passWeek_eq e4 okw
              refine ⟨(lN (sumN (fun m => bin n m * v ^ m * (10 - v) ^ (n - m) * feath (weeks true A m).1 k) (i + 1)), nI (i + 1), f'), ?_, rfl, rfl, v2⟩
              unfold p_X6_mean_L50
              dsimp only
              rw [if_neg (fun z => by have := (nI_ltI (by omega) (by omega)).mp z; omega), ways_eq hv hn (by omega), feathersOf_eq e4 okw hg2, v1]
              simp only [Option.bind_some]
              rw [toL (by omega), lN_mul, lN_add, nI_add]
              rfl)
            (fun z hz => by
              obtain ⟨z1, z2, z3⟩ := z
              obtain ⟨rfl, rfl, e4⟩ := hz
              refine ⟨(lN (sumN (fun m => bin n m * v ^ m * (10 - v) ^ (n - m) * feath (weeks true A m).1 k) (n + 1)), z3), ?_, rfl⟩
              unfold p_X6_mean_L50
              dsimp only
              rw [if_pos ((nI_ltI (by omega) (by omega)).mpr (by omega))]) (i := 0) (s := (lN 0, nI 0, f1)) (by omega) ⟨rfl, rfl, c2⟩
          obtain ⟨y1, y2⟩ := x
          dsimp only at hQ
          rw [← Hh_bin (10 - v) v n (fun m => feath (weeks true A m).1 k)] at hQ
          subst hQ
          have hb := Hh_le (u := 10 - v) (v := v) (M := 495) (by omega) n (fun m => feath (weeks true A m).1 k) hM
          have hb2 : 10 ^ n * 495 ≤ 100000000 * 495 := Nat.mul_le_mul_right 495 hp2
          rw [hx]
          simp only [Option.bind_some]
          rw [raised_eq (by omega) (by omega)]
          simp only [Option.bind_some]
          rw [partOfFraction_eq (by omega) (by omega) hp1]
          exact ⟨_, y2, g', rfl, rfl, Rel_Keep R0 u2⟩
end OPSH
