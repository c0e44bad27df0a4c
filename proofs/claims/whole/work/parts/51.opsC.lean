/-! ===== the calls, one by one: what to look at, on ===== -/
section OPSC
variable {x0 x1 x2 x3 x4 x5 x6 x7 x8 s0 s1 s2 s3 g : Mem} {A : Fk}
theorem bits_dec : ∀ j, j < 16 → ∀ i, i < 4 → nI j ||| ((nI 1) <<< ((nI i) &&& 31)) = nI (j ||| (1 <<< i)) ∧ (j ||| (1 <<< i)) < 16 := by decide +kernel
theorem bitCount_dec : ∀ j, j < 16 → p_J6_bitCount_0f7a4 (nI j) = some (nI (sumN (fun i => if bitO (nI j) i = nI 1 then 1 else 0) 5)) := by decide +kernel
theorem bitsI_16 (P : Nat → Bool) : ∀ n, n ≤ 4 → ∃ j, j < 16 ∧ bitsI P n = nI j
  | 0, _ => ⟨0, by decide, rfl⟩
  | n + 1, hn => by
    obtain ⟨j, hj, e⟩ := bitsI_16 P n (by omega)
    rw [bitsI_S, e]
    split
    · obtain ⟨q1, q2⟩ := bits_dec j hj n (by omega)
      exact ⟨_, q2, q1⟩
    · exact ⟨j, hj, rfl⟩
theorem bitCount_eq (P : Nat → Bool) {n : Nat} (hn : n ≤ 4) : p_J6_bitCount_0f7a4 (bitsI P n) = some (nI (sumN (fun i => if bitO (bitsI P n) i = nI 1 then 1 else 0) 5)) := by
  obtain ⟨j, hj, e⟩ := bitsI_16 P n hn
  rw [e]
  exact bitCount_dec j hj
/-- the best look among the first -/
def lkT (P : Nat → Bool) (V : Nat → Nat → Nat) : Nat → Nat × Int32
  | 0 => (sumN (fun i => if bitO (bitsI P 4) i = nI 1 then 1 else 0) 5, -4)
  | t + 1 => if (lkT P V t).1 ≤ mxk P (fun a => V a t) 4 then lkT P V t else (mxk P (fun a => V a t) 4, nI (10 * (t / 5) + t % 5))
theorem lkT_S (P : Nat → Bool) (V : Nat → Nat → Nat) (t : Nat) : lkT P V (t + 1) = if (lkT P V t).1 ≤ mxk P (fun a => V a t) 4 then lkT P V t else (mxk P (fun a => V a t) 4, nI (10 * (t / 5) + t % 5)) := rfl
theorem lkT_le (P : Nat → Bool) (V : Nat → Nat → Nat) : ∀ t, (lkT P V t).1 ≤ 5
  | 0 => by
    have := sumN_le (f := fun i => if bitO (bitsI P 4) i = nI 1 then 1 else 0) (m := 1) 5 (fun i _ => by split <;> omega)
    unfold lkT
    omega
  | t + 1 => by
    have h1 := lkT_le P V t
    have h2 := mxk_le P (fun a => V a t) 4
    rw [lkT_S]
    split
    · exact h1
    · show mxk P (fun a => V a t) 4 ≤ 5
      omega
/-- the class's row of shares, for all the ways a goose may be -/
def Sh2 (f : Mem) (k a : Nat) (B : Fk) (n : Nat) : Prop := ∀ w, w < n → ∀ o, o < 5 → f 2 (105 * a + 5 * w + o) = nI (sh (weeks true B w).1 k o)
theorem foretell39_eq {f t : Mem} {B : Fk} (h : enc t B) (hk : okF B) {k a w : Nat} (hg : k < B 0 0) (ha : a < 4) (hw : w ≤ 20) : ∃ f', lp (p_X6_foretellByKind_L39 x1 t (nI k) (nI a) (nI w)) (nI 0, f) = some f' ∧ (∀ i, i ≠ 2 → f' i = f i) ∧ (∀ o, o < 5 → f' 2 (105 * a + 5 * w + o) = nI (sh B k o)) ∧ ∀ j, j < 105 * a + 5 * w ∨ 105 * a + 5 * w + 5 ≤ j → f' 2 j = f 2 j := by
  obtain ⟨x, hx, hQ⟩ := lp_ex (b := p_X6_foretellByKind_L39 x1 t (nI k) (nI a) (nI w)) (I := fun i z => z.1 = nI i ∧ (∀ i, i ≠ 2 → z.2 i = f i) ∧ (∀ o, o < i → z.2 2 (105 * a + 5 * w + o) = nI (sh B k o)) ∧ ∀ j, j < 105 * a + 5 * w ∨ 105 * a + 5 * w + 5 ≤ j → z.2 2 j = f 2 j) (Q := fun z => (∀ i, i ≠ 2 → z i = f i) ∧ (∀ o, o < 5 → z 2 (105 * a + 5 * w + o) = nI (sh B k o)) ∧ ∀ j, j < 105 * a + 5 * w ∨ 105 * a + 5 * w + 5 ≤ j → z 2 j = f 2 j) 5
    (fun i hi z hz => by
      obtain ⟨z1, z3⟩ := z
      obtain ⟨rfl, e3, e4, e5⟩ := hz
      dsimp only at e3 e4 e5
      refine ⟨(nI (i + 1), mrow 2 (upd (z3 2) (105 * a + 5 * w + i) (nI (sh B k i))) z3), ?_, rfl, fun b hb => by dsimp only; rw [mrow_ne hb, e3 b hb], fun o ho => ?_, fun j hj => ?_⟩
      · unfold p_X6_foretellByKind_L39 p_X6_placeByKind
        dsimp only
        rw [if_neg (nI_ge hi (by decide)), held_eq h hk hg hi]
        simp only [Option.bind_some, pk_mul, nI_add]
        rw [gd_t (inb_nI (by omega) (by decide)), nI_clamp (by omega), show (a * 21 + w) * 5 + i = 105 * a + 5 * w + i by omega]
        rfl
      · dsimp only
        rw [mrow_s]
        by_cases hoi : o = i
        · subst hoi
          exact pk_us
        · rw [pk_un (by omega)]
          exact e4 o (by omega)
      · dsimp only
        rw [mrow_s, pk_un (by omega)]
        exact e5 j hj)
    (fun z hz => by
      obtain ⟨z1, z3⟩ := z
      obtain ⟨rfl, e3⟩ := hz
      refine ⟨z3, ?_, e3⟩
      unfold p_X6_foretellByKind_L39
      dsimp only
      rw [if_pos (Int32.le_refl _)]) (i := 0) (s := (nI 0, f)) (by omega) ⟨rfl, fun _ _ => rfl, fun o ho => by omega, fun _ _ => rfl⟩
  exact ⟨x, hx, hQ⟩
theorem foretell30_eq {f t : Mem} {B : Fk} (h : enc t B) (hk : okF B) {k a : Nat} (hg : k < B 0 0) (ha : a < 4) : ∃ f' t', lp (p_X6_foretellByKind_L30 x1 (nI k) (nI a)) (nI 0, f, t) = some (f', t') ∧ (∀ i, i ≠ 2 → f' i = f i) ∧ Sh2 f' k a B 21 ∧ ∀ j, j < 105 * a ∨ 105 * a + 105 ≤ j → f' 2 j = f 2 j := by
  obtain ⟨x, hx, hQ⟩ := lp_ex (b := p_X6_foretellByKind_L30 x1 (nI k) (nI a)) (I := fun i z => z.1 = nI i ∧ enc z.2.2 (weeks true B i).1 ∧ (∀ i, i ≠ 2 → z.2.1 i = f i) ∧ Sh2 z.2.1 k a B i ∧ ∀ j, j < 105 * a ∨ 105 * a + 105 ≤ j → z.2.1 2 j = f 2 j) (Q := fun z => (∀ i, i ≠ 2 → z.1 i = f i) ∧ Sh2 z.1 k a B 21 ∧ ∀ j, j < 105 * a ∨ 105 * a + 105 ≤ j → z.1 2 j = f 2 j) 21
    (fun i hi z hz => by
      obtain ⟨z1, z2, z3⟩ := z
      obtain ⟨rfl, e2, e3, e4, e5⟩ := hz
      dsimp only at e2 e3 e4 e5
      have okw := okF_weeks (m := true) hk i
      have hg2 : k < (weeks true B i).1 0 0 := by rw [weeks_00]; exact hg
      obtain ⟨f1, u1, u2, u3, u4⟩ := foretell39_eq (x1 := x1) (f := z2) e2 okw hg2 ha (show i ≤ 20 by omega)
      obtain ⟨t1, v1, v2⟩ := passWeek_eq e2 okw
      refine ⟨(nI (i + 1), f1, t1), ?_, rfl, v2, fun b hb => (u2 b hb).trans (e3 b hb), ?_, ?_⟩
      · unfold p_X6_foretellByKind_L30
        dsimp only
        rw [if_neg (fun z => by have := (nI_ltI (by decide) (by omega)).mp z; omega), u1]
        simp only [Option.bind_some]
        rw [v1]
        simp only [Option.bind_some, nI_add]
      · intro w hw o ho
        dsimp only
        by_cases hwi : w = i
        · subst hwi
          exact u3 o ho
        · rw [u4 _ (by omega)]
          exact e4 w (by omega) o ho
      · intro j hj
        dsimp only
        rw [u4 _ (by omega)]
        exact e5 j hj)
    (fun z hz => by
      obtain ⟨z1, z2, z3⟩ := z
      obtain ⟨rfl, e2, e3⟩ := hz
      refine ⟨(z2, z3), ?_, e3⟩
      unfold p_X6_foretellByKind_L30
      dsimp only
      rw [if_pos (by decide)]) (i := 0) (s := (nI 0, f, t)) (by omega) ⟨rfl, h, fun _ _ => rfl, fun w hw => by omega, fun _ _ => rfl⟩
  obtain ⟨y1, y2⟩ := x
  exact ⟨y1, y2, hx, hQ⟩
theorem foretell_eq (h : enc x1 A) (hk : okF A) {k : Nat} (hg : k < A 0 0) (f t : Mem) : ∃ f' t', p_X6_foretellByKind f x1 t (nI k) = some (f', t') ∧ (∀ i, i ≠ 2 → f' i = f i) ∧ ∀ v, v < 4 → Sh2 f' k v (fset A 1 k v) 21 := by
  have h3 := hk.1.1
  obtain ⟨x, hx, hQ⟩ := lp_ex (b := p_X6_foretellByKind_L2 x1 (nI k)) (I := fun i z => z.1 = nI i ∧ (∀ i, i ≠ 2 → z.2.1 i = f i) ∧ ∀ v, v < i → Sh2 z.2.1 k v (fset A 1 k v) 21) (Q := fun z => (∀ i, i ≠ 2 → z.1 i = f i) ∧ ∀ v, v < 4 → Sh2 z.1 k v (fset A 1 k v) 21) 4
    (fun i hi z hz => by
      obtain ⟨z1, z2, z3⟩ := z
      obtain ⟨rfl, e3, e4⟩ := hz
      dsimp only at e3 e4
      have hB : okF (fset A 1 k i) := okF_set hk (by omega) (fun _ => hi) (by omega) (by omega) (by omega) (by omega)
      have b0 : fset A 1 k i 0 0 = A 0 0 := fset_ne (by decide)
      obtain ⟨f1, c1, c2⟩ := copyFrom_eq (f := z3) h hk
      obtain ⟨f2, t2, d1, d2, d3, d4⟩ := foretell30_eq (x1 := x1) (f := z2) (enc_upd (i := 1) (j := k) (v := i) c2 (by decide)) hB (k := k) (a := i) (by rw [b0]; exact hg) hi
      refine ⟨(nI (i + 1), f2, t2), ?_, rfl, fun b hb => (d2 b hb).trans (e3 b hb), fun v hv => ?_⟩
      · unfold p_X6_foretellByKind_L2
        dsimp only
        rw [if_neg (nI_ge hi (by decide)), c1]
        simp only [Option.bind_some]
        rw [gd_t (inb_nI (by omega) (by decide)), nI_clamp (by omega)]
        unfold bnd
        dsimp only
        rw [d1]
        simp only [Option.bind_some, nI_add]
      · dsimp only
        by_cases hvi : v = i
        · subst hvi
          exact d3
        · intro w hw o ho
          rw [d4 _ (by omega)]
          exact e4 v (by omega) w hw o ho)
    (fun z hz => by
      obtain ⟨z1, z2, z3⟩ := z
      obtain ⟨rfl, e3⟩ := hz
      refine ⟨(z2, z3), ?_, e3⟩
      unfold p_X6_foretellByKind_L2
      dsimp only
      rw [if_pos (Int32.le_refl _)]) (i := 0) (s := (nI 0, f, t)) (by omega) ⟨rfl, fun _ _ => rfl, fun v hv => by omega⟩
  obtain ⟨y1, y2⟩ := x
  refine ⟨y1, y2, ?_, hQ⟩
  unfold p_X6_foretellByKind
  rw [hx]
  rfl
/-- a share at a look, by a way the goose may be -/
def Vk (A : Fk) (k a t : Nat) : Nat := sh (weeks true (fset A 1 k a) (t / 5)).1 k (t % 5)
theorem Vk_le (hk : okF A) {k a t : Nat} (hg : k < A 0 0) (ha : a < 4) : Vk A k a t ≤ 99 := by
  have hB : okF (fset A 1 k a) := okF_set hk (by omega) (fun _ => ha) (by omega) (by omega) (by omega) (by omega)
  have b0 : fset A 1 k a 0 0 = A 0 0 := fset_ne (by decide)
  exact sh_le (okF_weeks (m := true) hB (t / 5)) (by rw [weeks_00, b0]; exact hg) (Nat.mod_lt t (by decide))
theorem look_c {f : Mem} {P : Nat → Bool} {k : Nat} (hk : okF A) (hg : k < A 0 0) (hS : ∀ v, v < 4 → Sh2 f k v (fset A 1 k v) 21) (x1 t : Mem) (y : Int32) : lp (p_X6_look_L46 f x1 t x8 y (bitsI P 4)) (nI (lkT P (Vk A k) 0).1, -4, nI 0) = some (nI (lkT P (Vk A k) 105).1, (lkT P (Vk A k) 105).2) := by
  have inner : ∀ w, w < 21 → lp (p_X6_look_L56 f x1 t x8 y (bitsI P 4) (nI w)) (nI (lkT P (Vk A k) (5 * w)).1, (lkT P (Vk A k) (5 * w)).2, nI 0) = some (nI (lkT P (Vk A k) (5 * w + 5)).1, (lkT P (Vk A k) (5 * w + 5)).2) := fun w hw => by
    refine lp_for (fun i => (nI (lkT P (Vk A k) (5 * w + i)).1, (lkT P (Vk A k) (5 * w + i)).2, nI i)) 5 (fun i hi => ?_) ?_
    · have e1 : (5 * w + i) / 5 = w := by omega
      have e2 : (5 * w + i) % 5 = i := by omega
      have l1 := lkT_le P (Vk A k) (5 * w + i)
      have l2 := mxk_le P (fun a => Vk A k a (5 * w + i)) 4
      unfold p_X6_look_L56
      dsimp only
      rw [if_neg (nI_ge hi (by decide)), mostKindsAlike_eq (V := fun a => Vk A k a (5 * w + i)) (by omega) hi (fun a ha => ⟨Vk_le hk hg ha, by
        rw [hS a ha w hw i hi]
        unfold Vk
        rw [e1, e2]⟩)]
      simp only [Option.bind_some]
      rw [← Nat.add_assoc, lkT_S]
      by_cases hc : (lkT P (Vk A k) (5 * w + i)).1 ≤ mxk P (fun a => Vk A k a (5 * w + i)) 4
      · rw [if_pos ((nI_leI (by omega) (by omega)).mpr hc), if_pos hc, nI_add]
      · rw [if_neg (fun z => hc ((nI_leI (by omega) (by omega)).mp z)), if_neg hc, nI_add, pk_mul, nI_add, e1, e2]
    · unfold p_X6_look_L56
      dsimp only
      rw [if_pos (Int32.le_refl _)]
  refine lp_for (fun w => (nI (lkT P (Vk A k) (5 * w)).1, (lkT P (Vk A k) (5 * w)).2, nI w)) 21 (fun w hw => ?_) ?_
  · unfold p_X6_look_L46
    dsimp only
    rw [if_neg (fun z => by have := (nI_ltI (by decide) (by omega)).mp z; omega), inner w hw]
    simp only [Option.bind_some, nI_add]
    rfl
  · unfold p_X6_look_L46
    dsimp only
    rw [if_pos (by decide)]
theorem look_m {f : Mem} {P : Nat → Bool} {k : Nat} (hk : okF A) (hg : k < A 0 0) (hS : ∀ v, v < 4 → Sh7 f k v (fset A 1 k v) 21) (y : Int32) : lp (p_X7_look_L39 f y (bitsI P 4)) (nI (lkT P (Vk A k) 0).1, -4, nI 0) = some (nI (lkT P (Vk A k) 105).1, (lkT P (Vk A k) 105).2) := by
  refine lp_for (fun t => (nI (lkT P (Vk A k) t).1, (lkT P (Vk A k) t).2, nI t)) 105 (fun t ht => ?_) ?_
  · have l1 := lkT_le P (Vk A k) t
    have l2 := mxk_le P (fun a => Vk A k a t) 4
    have hm := Nat.mod_lt t (show 0 < 5 by decide)
    unfold p_X7_look_L39
    dsimp only
    rw [if_neg (nI_ge ht (by decide)), lookWorst_eq (V := fun a => Vk A k a t) ht (fun a ha => ⟨Vk_le hk hg ha, by
      have := hS a ha (t / 5) (by omega) (t % 5) hm
      rw [show 105 * a + 5 * (t / 5) + t % 5 = 105 * a + t by omega] at this
      exact this⟩)]
    simp only [Option.bind_some]
    unfold p_X7_look_B181
    rw [lkT_S]
    by_cases hc : (lkT P (Vk A k) t).1 ≤ mxk P (fun a => Vk A k a t) 4
    · rw [if_pos ((nI_leI (by omega) (by omega)).mpr hc), if_pos ((nI_leI (by omega) (by omega)).mpr hc), if_pos hc, nI_add]
    · have hn : ¬ nI (lkT P (Vk A k) t).1 ≤ nI (mxk P (fun a => Vk A k a t) 4) := fun z => hc ((nI_leI (by omega) (by omega)).mp z)
      rw [if_neg hn, if_neg hn, if_neg hc, nI_add, pk_rem (by omega) (by decide) (by decide), pk_div (by omega) (by decide) (by decide), pk_mul, nI_add]
  · unfold p_X7_look_L39
    dsimp only
    rw [if_pos (Int32.le_refl _)]
theorem Rel_0 {f : Mem} (R : Rel x0 x1 x3 x4 x5 x6 x8 s0 s1 s2 s3 g) (hf : ∀ i, i ≠ 2 → f i = x0 i) : Rel f x1 x3 x4 x5 x6 x8 s0 s1 s2 s3 g := by
  obtain ⟨A, h, hk, hm, q1, q2, ⟨k0, k1, q3, q4⟩, q5, q6, q7, q8⟩ := R
  exact ⟨A, h, hk, hm, q1, q2, ⟨k0, k1, by rw [hf 0 (by decide)]; exact q3, q4⟩, q5, q6, by rw [hf 0 (by decide)]; exact q7, q8⟩
theorem op_look (R : Rel x0 x1 x3 x4 x5 x6 x8 s0 s1 s2 s3 g) (x2 : Mem) (a b : Int32) : ∃ r x0' x2' g', p_X6_look x0 x1 x2 x8 a b = some (r, x0', x2') ∧ p_X7_look g a b = some (r, g') ∧ Rel x0' x1 x3 x4 x5 x6 x8 s0 s1 s2 s3 g' := by
  have R0 := R
  obtain ⟨A, h, hk, hm, hR⟩ := R
  obtain ⟨-, -, -, hSS, -⟩ := hR
  obtain ⟨m, S, sc, sm⟩ := R_seen_of hSS
  unfold p_X6_look p_X7_look
  rw [hasGoose_eq h, isGoose_eq hm.1, isWithin_eq, in_c01]
  simp only [Option.bind_some, bI_0]
  cases hG : hasG (A 0 0) a with
  | false => exact ⟨-1, x0, x2, g, rfl, rfl, R0⟩
  | true =>
    obtain ⟨k, hg, rfl⟩ := hasG_of (geese_lt hk) hG
    rw [ite_tf, ite_tf]
    cases hW : wi b (nI 0) (nI 1) with
    | false => exact ⟨-1, x0, x2, g, rfl, rfl, R0⟩
    | true =>
      obtain ⟨f1, q1⟩ := kindsAsSeen_eq (x0 := x0) sc h hk hg x2
      obtain ⟨f2, f3, d1, d2, d3⟩ := foretell_eq h hk hg x0 f1
      obtain ⟨g', u1, u2, u3⟩ := kindsOf_eq sm hm hk hg
      rw [ite_tf, ite_tf, q1, u1]
      simp only [Option.bind_some]
      generalize (fun v => asS S m (fset A 1 k v) 21) = P
      rw [d1, bitsOf_eq]
      simp only [Option.bind_some]
      rw [bitCount_eq P (Nat.le_refl 4)]
      simp only [Option.bind_some]
      have ec := look_c (x8 := x8) (P := P) hk hg d3 x1 f3 b
      have em := look_m (P := P) hk hg u3 b
      rw [show (lkT P (Vk A k) 0).1 = sumN (fun i => if bitO (bitsI P 4) i = nI 1 then 1 else 0) 5 from rfl] at ec em
      rw [ec, em]
      simp only [Option.bind_some]
      generalize (lkT P (Vk A k) 105).2 = p2
      by_cases hb : b = 0
      · rw [if_pos hb]
        by_cases h4 : p2 = -4
        · rw [if_pos h4]; exact ⟨_, _, _, _, rfl, rfl, Rel_0 (Rel_Keep R0 u2) d2⟩
        · rw [if_neg h4, if_pos hb]; exact ⟨_, _, _, _, rfl, rfl, Rel_0 (Rel_Keep R0 u2) d2⟩
      · rw [if_neg hb]
        by_cases h4 : p2 = -4
        · rw [if_pos h4, if_pos h4]; exact ⟨_, _, _, _, rfl, rfl, Rel_0 (Rel_Keep R0 u2) d2⟩
        · rw [if_neg h4, if_neg h4, if_neg hb]; exact ⟨_, _, _, _, rfl, rfl, Rel_0 (Rel_Keep R0 u2) d2⟩
end OPSC
