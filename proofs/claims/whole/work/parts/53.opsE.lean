/-! ===== the calls, one by one: sheets ===== -/
section OPSE
variable {x0 x1 x2 x3 x4 x5 x6 x7 x8 s0 s1 s2 s3 g : Mem} {A : Fk}
theorem toInt_cond (x : Int32) : x.toInt = if 2 * x.toBitVec.toNat < 4294967296 then (x.toBitVec.toNat : Int) else (x.toBitVec.toNat : Int) - 4294967296 := BitVec.toInt_eq_toNat_cond x.toBitVec
theorem byte_ar {a r : Nat} {y x : Int} (hr : r = a % 256) (hy : y = if 2 * (r * 16777216) < 4294967296 then ((r * 16777216 : Nat) : Int) else ((r * 16777216 : Nat) : Int) - 4294967296) (hx : x = if 2 * a < 4294967296 then (a : Int) else (a : Int) - 4294967296) : y / 16777216 = Int.bmod x 256 := by
  have h1 : x % 256 = (r : Int) := by rw [hx]; split <;> omega
  have h2 : y / 16777216 = if r < 128 then (r : Int) else (r : Int) - 256 := by
    have : r < 256 := by omega
    rw [hy]
    split <;> split <;> omega
  have h3 : ((256 : Nat) : Int) = 256 := rfl
  rw [Int.bmod_def, h3, h1, h2]
  split <;> split <;> omega
theorem short_ar {a r : Nat} {y x : Int} (hr : r = a % 65536) (hy : y = if 2 * (r * 65536) < 4294967296 then ((r * 65536 : Nat) : Int) else ((r * 65536 : Nat) : Int) - 4294967296) (hx : x = if 2 * a < 4294967296 then (a : Int) else (a : Int) - 4294967296) : y / 65536 = Int.bmod x 65536 := by
  have h1 : x % 65536 = (r : Int) := by rw [hx]; split <;> omega
  have h2 : y / 65536 = if r < 32768 then (r : Int) else (r : Int) - 65536 := by
    have : r < 65536 := by omega
    rw [hy]
    split <;> split <;> omega
  have h3 : ((65536 : Nat) : Int) = 65536 := rfl
  rw [Int.bmod_def, h3, h1, h2]
  split <;> split <;> omega
theorem byte_eq (x : Int32) : (x <<< ((nI 24) &&& 31)) >>> ((nI 24) &&& 31) = x.toInt8.toInt32 := by
  apply Int32.toInt_inj.mp
  rw [pk_shr _ ((nI 24) &&& 31) 24 (by decide), Int.shiftRight_eq_div_pow, Int8.toInt_toInt32, Int32.toInt_toInt8]
  have e : (x <<< ((nI 24) &&& 31)).toBitVec.toNat = x.toBitVec.toNat % 256 * 16777216 := (pk_shl x ((nI 24) &&& 31) 24 (by decide)).trans (Nat.mul_mod_mul_right 16777216 x.toBitVec.toNat 256)
  have hz := toInt_cond (x <<< ((nI 24) &&& 31))
  rw [e] at hz
  exact byte_ar rfl hz (toInt_cond x)
theorem short_eq (x : Int32) : (x <<< ((nI 16) &&& 31)) >>> ((nI 16) &&& 31) = x.toInt16.toInt32 := by
  apply Int32.toInt_inj.mp
  rw [pk_shr _ ((nI 16) &&& 31) 16 (by decide), Int.shiftRight_eq_div_pow, Int16.toInt_toInt32, Int32.toInt_toInt16]
  have e : (x <<< ((nI 16) &&& 31)).toBitVec.toNat = x.toBitVec.toNat % 65536 * 65536 := (pk_shl x ((nI 16) &&& 31) 16 (by decide)).trans (Nat.mul_mod_mul_right 65536 x.toBitVec.toNat 65536)
  have hz := toInt_cond (x <<< ((nI 16) &&& 31))
  rw [e] at hz
  exact short_ar rfl hz (toInt_cond x)
theorem Rest_sheets {x0 x3 x4 x5 x6 x8 s0 s1 s2 s3 t0 t1 t2 t3 g g' : Mem} {n : Nat} (h : Rest x0 x3 x4 x5 x6 x8 s0 s1 s2 s3 g n) (hr : ∀ i, i ≠ 9 → i ≠ 10 → i ≠ 11 → g' i = g i) (hs : R_sheet t0 g' 0 ∧ R_sheet t1 g' 1 ∧ R_sheet t2 g' 2 ∧ R_sheet t3 g' 3) : Rest x0 x3 x4 x5 x6 x8 t0 t1 t2 t3 g' n := by
  obtain ⟨q1, q2, ⟨k0, k1, q3, q4, q5, q6, q7⟩, q8, -, q13, q14⟩ := h
  have e0 := hr 0 (by decide) (by decide) (by decide)
  have e1 := hr 1 (by decide) (by decide) (by decide)
  have e8 := hr 8 (by decide) (by decide) (by decide)
  refine ⟨R_tape_as q1 (by rw [e0]) (hr 3 (by decide) (by decide) (by decide)), by rw [e0]; exact q2, ⟨k0, k1, q3, by rw [e8]; exact q4, by rw [e8]; exact q5, R_img_as q6 (by rw [e0]) e1, R_img_as q7 (by rw [e0]) e1⟩, R_seen_as q8 (by rw [e0]) (hr 6 (by decide) (by decide) (by decide)), hs, by rw [e0]; exact q13, ?_⟩
  unfold R_const
  rw [hr 4 (by decide) (by decide) (by decide), hr 5 (by decide) (by decide) (by decide)]
  exact q14
theorem Rel_sheets {t0 t1 t2 t3 g' : Mem} (R : Rel x0 x1 x3 x4 x5 x6 x8 s0 s1 s2 s3 g) (hr : ∀ i, i ≠ 9 → i ≠ 10 → i ≠ 11 → g' i = g i) (hs : R_sheet t0 g' 0 ∧ R_sheet t1 g' 1 ∧ R_sheet t2 g' 2 ∧ R_sheet t3 g' 3) : Rel x0 x1 x3 x4 x5 x6 x8 t0 t1 t2 t3 g' := by
  obtain ⟨A, h, hk, hm, hR⟩ := R
  exact ⟨A, h, hk, MS_as hm (by rw [hr 0 (by decide) (by decide) (by decide)]) (hr 1 (by decide) (by decide) (by decide)), Rest_sheets hR hr hs⟩
theorem R_sheet_other {s g g' : Mem} {i : Nat} (h : R_sheet s g i) (h9 : g' 9 i = g 9 i) (h10 : g' 10 i = g 10 i) (h11 : ∀ t, t < 40 → g' 11 (40 * i + t) = g 11 (40 * i + t)) : R_sheet s g' i := by
  rcases h with ⟨q1, q2⟩ | ⟨l, n, q1, q2, q3, q4, q5, q6, q7, q8⟩
  · exact .inl ⟨q1, by rw [h9]; exact q2⟩
  · exact .inr ⟨l, n, q1, q2, q3, q4, q5, by rw [h9]; exact q6, by rw [h10]; exact q7, fun t ht => by rw [h11 t ht]; exact q8 t ht⟩
theorem renew_eq (s : Mem) (l n : Int32) : p_X2_renew s l n = some (mrow 1 (fun k => if k < 40 then nI 0 else s 1 k) (mset 0 2 n (mset 0 1 l (mset 0 0 (nI 0) s)))) := by
  unfold p_X2_renew
  rw [fill_eq 40 (by decide)]
  rfl
theorem renew_R {s g' : Mem} {l n j : Nat} (hl : l < 3) (hn : n ≤ 40) (h9 : g' 9 j = nI l) (h10 : g' 10 j = nI n) (h11 : ∀ t, t < 40 → g' 11 (40 * j + t) = nI 0) : R_sheet (mrow 1 (fun k => if k < 40 then nI 0 else s 1 k) (mset 0 2 (nI n) (mset 0 1 (nI l) (mset 0 0 (nI 0) s)))) g' j := by
  refine .inr ⟨l, n, hl, hn, ?_, ?_, ?_, h9, h10, fun t ht => ?_⟩
  · rw [mrow_ne (by decide), mset_no (by decide), mset_no (by decide), mset_s]
  · rw [mrow_ne (by decide), mset_no (by decide), mset_s]
  · rw [mrow_ne (by decide), mset_s]
  · rw [mrow_s, h11 t ht, if_pos ht]
theorem sheetLoop_eq (g : Mem) {j : Nat} (hj : j < 4) : ∃ g', lp (p_X7_sheet_L56 (nI j)) (nI 0, g) = some g' ∧ (∀ i, i ≠ 11 → g' i = g i) ∧ (∀ t, t < 40 → g' 11 (40 * j + t) = nI 0) ∧ ∀ t, t < 40 * j ∨ 40 * j + 40 ≤ t → g' 11 t = g 11 t := by
  obtain ⟨x, hx, hQ⟩ := lp_ex (b := p_X7_sheet_L56 (nI j)) (I := fun i z => z.1 = nI i ∧ (∀ i, i ≠ 11 → z.2 i = g i) ∧ (∀ t, t < i → z.2 11 (40 * j + t) = nI 0) ∧ ∀ t, t < 40 * j ∨ 40 * j + 40 ≤ t → z.2 11 t = g 11 t) (Q := fun z => (∀ i, i ≠ 11 → z i = g i) ∧ (∀ t, t < 40 → z 11 (40 * j + t) = nI 0) ∧ ∀ t, t < 40 * j ∨ 40 * j + 40 ≤ t → z 11 t = g 11 t) 40
    (fun i hi z hz => by
      obtain ⟨z1, z3⟩ := z
      obtain ⟨rfl, e3, e4, e5⟩ := hz
      dsimp only at e3 e4 e5
      refine ⟨(nI (i + 1), mrow 11 (upd (z3 11) (40 * j + i) (nI 0)) z3), ?_, rfl, fun b hb => by dsimp only; rw [mrow_ne hb, e3 b hb], fun t ht => ?_, fun t ht => ?_⟩
      · unfold p_X7_sheet_L56
        dsimp only
        rw [if_neg (nI_ge hi (by decide)), pk_mul, nI_add, nI_add, gd_t (inb_nI (by omega) (by decide)), nI_clamp (by omega)]
        rfl
      · dsimp only
        rw [mrow_s]
        by_cases hti : t = i
        · subst hti; exact pk_us
        · rw [pk_un (by omega)]; exact e4 t (by omega)
      · dsimp only
        rw [mrow_s, pk_un (by omega)]
        exact e5 t ht)
    (fun z hz => by
      obtain ⟨z1, z3⟩ := z
      obtain ⟨rfl, e3⟩ := hz
      refine ⟨z3, ?_, e3⟩
      unfold p_X7_sheet_L56
      dsimp only
      rw [if_pos (Int32.le_refl _)]) (i := 0) (s := (nI 0, g)) (by omega) ⟨rfl, fun _ _ => rfl, fun t ht => by omega, fun _ _ => rfl⟩
  exact ⟨x, hx, hQ⟩
theorem isSheet_eq (x : Int32) : p_X6_isSheet x = some (bI (wi x (nI 0) (nI 3))) := by
  unfold p_X6_isSheet
  rw [isWithin_eq]
  rfl
theorem isLane_eq (x : Int32) : p_X6_isLane x = some (bI (wi x (nI 0) (nI 2))) := by
  unfold p_X6_isLane
  rw [isWithin_eq]
  rfl
theorem op_sheet (R : Rel x0 x1 x3 x4 x5 x6 x8 s0 s1 s2 s3 g) (a b c : Int32) : ∃ r t0 t1 t2 t3 g', p_X6_sheet x0 s0 s1 s2 s3 a b c = some (r, t0, t1, t2, t3) ∧ p_X7_sheet g a b c = some (r, g') ∧ Rel x0 x1 x3 x4 x5 x6 x8 t0 t1 t2 t3 g' := by
  have R0 := R
  obtain ⟨A, h, hk, hm, hR⟩ := R
  obtain ⟨-, -, -, -, ⟨r0, r1, r2, r3⟩, -⟩ := hR
  unfold p_X6_sheet p_X7_sheet
  rw [isSheet_eq, isLane_eq, in_c0 3 (by decide), in_c0 2 (by decide)]
  simp only [Option.bind_some, bI_0]
  cases hO : wi a (nI 0) (nI 3) with
  | false => exact ⟨-1, s0, s1, s2, s3, g, rfl, rfl, R0⟩
  | true =>
    obtain ⟨j, hj, rfl⟩ := wi_of (by decide) hO
    rw [ite_tf, ite_tf]
    cases hW : wi b (nI 0) (nI 2) with
    | false => exact ⟨-1, s0, s1, s2, s3, g, rfl, rfl, R0⟩
    | true =>
      obtain ⟨l, hl, rfl⟩ := wi_of (by decide) hW
      rw [ite_tf, ite_tf]
      by_cases hc : c ≤ nI 40
      · rw [if_pos hc, if_pos hc]
        by_cases hc0 : 0 ≤ c
        · obtain ⟨n, hn1, rfl⟩ := nI_of (x := c) (Int32.not_lt.mpr hc0)
          have hn : n ≤ 40 := (nI_leI hn1 (by decide)).mp hc
          have i4 : inb (nI j) 4 = true := inb_nI (by omega) (by decide)
          rw [if_pos hc0, if_pos hc0, gd_t i4, nI_clamp (by omega)]
          unfold bnd
          dsimp only
          rw [gd_t i4]
          obtain ⟨g', u1, u2, u3, u4⟩ := sheetLoop_eq (mrow 10 (upd (g 10) j (nI n)) (mrow 9 (upd (g 9) j (nI l)) g)) (j := j) (by omega)
          rw [u1]
          simp only [Option.bind_some]
          have v9 : g' 9 = upd (g 9) j (nI l) := by rw [u2 9 (by decide), mrow_ne (by decide), mrow_s]
          have v10 : g' 10 = upd (g 10) j (nI n) := by rw [u2 10 (by decide), mrow_s]
          have vr : ∀ i, i ≠ 9 → i ≠ 10 → i ≠ 11 → g' i = g i := fun i h9 h10 h11 => by rw [u2 i h11, mrow_ne h10, mrow_ne h9]
          have rn : ∀ s : Mem, R_sheet (mrow 1 (fun k => if k < 40 then nI 0 else s 1 k) (mset 0 2 (nI n) (mset 0 1 (nI l) (mset 0 0 (nI 0) s)))) g' j := fun s => renew_R (by omega) hn (by rw [v9, pk_us]) (by rw [v10, pk_us]) u3
          have ro : ∀ (s : Mem) (i : Nat), i ≠ j → i < 4 → R_sheet s g i → R_sheet s g' i := fun s i hij hi hs => R_sheet_other hs (by rw [v9, pk_un hij]) (by rw [v10, pk_un hij]) (fun t ht => by rw [u4 _ (by omega), mrow_ne (by decide), mrow_ne (by decide)])
          rcases (show j = 0 ∨ j = 1 ∨ j = 2 ∨ j = 3 by omega) with rfl | rfl | rfl | rfl
          · rw [if_pos rfl, renew_eq]
            exact ⟨_, _, _, _, _, _, rfl, rfl, Rel_sheets R0 vr ⟨rn s0, ro s1 1 (by decide) (by decide) r1, ro s2 2 (by decide) (by decide) r2, ro s3 3 (by decide) (by decide) r3⟩⟩
          · rw [if_neg (by decide), if_pos rfl, renew_eq]
            exact ⟨_, _, _, _, _, _, rfl, rfl, Rel_sheets R0 vr ⟨ro s0 0 (by decide) (by decide) r0, rn s1, ro s2 2 (by decide) (by decide) r2, ro s3 3 (by decide) (by decide) r3⟩⟩
          · rw [if_neg (by decide), if_neg (by decide), if_pos rfl, renew_eq]
            exact ⟨_, _, _, _, _, _, rfl, rfl, Rel_sheets R0 vr ⟨ro s0 0 (by decide) (by decide) r0, ro s1 1 (by decide) (by decide) r1, rn s2, ro s3 3 (by decide) (by decide) r3⟩⟩
          · rw [if_neg (by decide), if_neg (by decide), if_neg (by decide), if_pos rfl, renew_eq]
            exact ⟨_, _, _, _, _, _, rfl, rfl, Rel_sheets R0 vr ⟨ro s0 0 (by decide) (by decide) r0, ro s1 1 (by decide) (by decide) r1, ro s2 2 (by decide) (by decide) r2, rn s3⟩⟩
        · rw [if_neg hc0, if_neg hc0]
          exact ⟨-14, s0, s1, s2, s3, g, rfl, rfl, R0⟩
      · rw [if_neg hc, if_neg hc]
        exact ⟨-1, s0, s1, s2, s3, g, rfl, rfl, R0⟩
/-- one sheet is written, on both sides -/
theorem lay_one {s : Mem} {j : Nat} (hj : j < 4) (hs : R_sheet s g j) (b c : Int32) : ∃ (q : Int32) (s' g' : Mem), p_X2_put s b c = some (q, s') ∧ (if g 9 j = (-4 : Int32) then (some ((-11 : Int32), g)) else (gd (inb (nI j) 4) <| Option.bind (p_X7_in (b.toInt64) (lN 0) (((g 10 j) - (nI 1)).toInt64)) <| fun r40 => if r40 = 0 then (some ((-12 : Int32), g)) else (gd (inb (nI j) 4) <| if (g 9 j) = 0 then (p_X7_lay_B99 g ((c <<< ((nI 24) &&& 31)) >>> ((nI 24) &&& 31)) (((nI 40) * (nI j)) + b)) else (gd (inb (nI j) 4) <| if (g 9 j) = (nI 1) then (p_X7_lay_B99 g ((c <<< ((nI 16) &&& 31)) >>> ((nI 16) &&& 31)) (((nI 40) * (nI j)) + b)) else (p_X7_lay_B99 g c (((nI 40) * (nI j)) + b)))))) = some (if q = 0 then nI 1 else -10 - q, g') ∧ R_sheet s' g' j ∧ (∀ i, i ≠ 11 → g' i = g i) ∧ ∀ t, t < 40 * j ∨ 40 * j + 40 ≤ t → g' 11 t = g 11 t := by
  have i4 : inb (nI j) 4 = true := inb_nI hj (by decide)
  have hs0 := hs
  rcases hs with ⟨q1, q2⟩ | ⟨l, n, q1, q2, q3, q4, q5, q6, q7, q8⟩
  · refine ⟨nI 1, s, g, ?_, ?_, hs0, fun _ _ => rfl, fun _ _ => rfl⟩
    · unfold p_X2_put
      rw [q1, if_neg (by decide)]
    · rw [if_pos q2, if_neg (by decide)]
      rfl
  · rw [q6, if_neg (nI_m (by omega) (by decide)), gd_t i4, q7, in_0]
    unfold p_X2_put
    rw [q3, if_pos (show nI 0 = 0 from rfl), q5, isWithin_eq, q4]
    simp only [Option.bind_some, bI_0]
    cases hW : wi b (nI 0) (nI n - nI 1) with
    | false => exact ⟨nI 2, s, g, rfl, by rw [ite_ff, if_neg (by decide)]; rfl, hs0, fun _ _ => rfl, fun _ _ => rfl⟩
    | true =>
      obtain ⟨i, hi, rfl⟩ := hasG_of (n := n) (by omega) hW
      rw [ite_tf, ite_tf, gd_t i4, gd_t i4, byte_eq, short_eq]
      have fin : ∀ v : Int32, ∃ (q : Int32) (s' g' : Mem), p_X2_put_B56 s v (nI i) = some (q, s') ∧ p_X7_lay_B99 g v (nI 40 * nI j + nI i) = some (if q = 0 then nI 1 else -10 - q, g') ∧ R_sheet s' g' j ∧ (∀ i, i ≠ 11 → g' i = g i) ∧ ∀ t, t < 40 * j ∨ 40 * j + 40 ≤ t → g' 11 t = g 11 t := fun v => by
        refine ⟨nI 0, mrow 1 (upd (s 1) i v) s, mrow 11 (upd (g 11) (40 * j + i) v) g, ?_, ?_, ?_, fun a ha => mrow_ne ha, fun t ht => by rw [mrow_s, pk_un (by omega)]⟩
        · unfold p_X2_put_B56
          rw [gd_t (inb_nI (by omega) (by decide)), nI_clamp (by omega)]
          rfl
        · unfold p_X7_lay_B99
          rw [pk_mul, nI_add, gd_t (inb_nI (by omega) (by decide)), nI_clamp (by omega), if_pos (show nI 0 = 0 from rfl)]
          rfl
        · refine .inr ⟨l, n, q1, q2, by rw [mrow_ne (by decide)]; exact q3, by rw [mrow_ne (by decide)]; exact q4, by rw [mrow_ne (by decide)]; exact q5, by rw [mrow_ne (by decide)]; exact q6, by rw [mrow_ne (by decide)]; exact q7, fun t ht => ?_⟩
          rw [mrow_s, mrow_s]
          by_cases hti : t = i
          · subst hti; rw [pk_us, pk_us]
          · rw [pk_un hti, pk_un (by omega)]; exact q8 t ht
      by_cases h0 : nI l = 0
      · rw [if_pos h0, if_pos h0]; exact fin _
      · rw [if_neg h0, if_neg h0]
        by_cases h1 : nI l = nI 1
        · rw [if_pos h1, if_pos h1]; exact fin _
        · rw [if_neg h1, if_neg h1]; exact fin _
theorem op_lay (R : Rel x0 x1 x3 x4 x5 x6 x8 s0 s1 s2 s3 g) (a b c : Int32) : ∃ r t0 t1 t2 t3 g', p_X6_lay x0 s0 s1 s2 s3 a b c = some (r, t0, t1, t2, t3) ∧ p_X7_lay g a b c = some (r, g') ∧ Rel x0 x1 x3 x4 x5 x6 x8 t0 t1 t2 t3 g' := by
  have R0 := R
  obtain ⟨A, h, hk, hm, hR⟩ := R
  obtain ⟨-, -, -, -, ⟨r0, r1, r2, r3⟩, -⟩ := hR
  unfold p_X6_lay p_X7_lay
  rw [isSheet_eq, in_c0 3 (by decide)]
  simp only [Option.bind_some, bI_0]
  cases hO : wi a (nI 0) (nI 3) with
  | false => exact ⟨-1, s0, s1, s2, s3, g, rfl, rfl, R0⟩
  | true =>
    obtain ⟨j, hj, rfl⟩ := wi_of (by decide) hO
    have i4 : inb (nI j) 4 = true := inb_nI (by omega) (by decide)
    rw [ite_tf, ite_tf, gd_t i4, nI_clamp (by omega)]
    have ro : ∀ (g' : Mem), (∀ i, i ≠ 11 → g' i = g i) → (∀ t, t < 40 * j ∨ 40 * j + 40 ≤ t → g' 11 t = g 11 t) → ∀ (s : Mem) (i : Nat), i ≠ j → i < 4 → R_sheet s g i → R_sheet s g' i := fun g' y1 y2 s i hij hi hs => R_sheet_other hs (by rw [y1 9 (by decide)]) (by rw [y1 10 (by decide)]) (fun t ht => y2 _ (by omega))
    rcases (show j = 0 ∨ j = 1 ∨ j = 2 ∨ j = 3 by omega) with rfl | rfl | rfl | rfl
    · obtain ⟨q, s', g', u1, u2, u3, u4, u5⟩ := lay_one (by decide) r0 b c
      have w := ro g' u4 u5
      rw [if_pos rfl, u1, u2]
      simp only [Option.bind_some]
      refine ⟨if q = 0 then nI 1 else -10 - q, s', s1, s2, s3, g', by split <;> rfl, rfl, Rel_sheets R0 (fun i _ _ h11 => u4 i h11) ⟨u3, w s1 1 (by decide) (by decide) r1, w s2 2 (by decide) (by decide) r2, w s3 3 (by decide) (by decide) r3⟩⟩
    · obtain ⟨q, s', g', u1, u2, u3, u4, u5⟩ := lay_one (by decide) r1 b c
      have w := ro g' u4 u5
      rw [if_neg (by decide), if_pos rfl, u1, u2]
      simp only [Option.bind_some]
      refine ⟨if q = 0 then nI 1 else -10 - q, s0, s', s2, s3, g', by split <;> rfl, rfl, Rel_sheets R0 (fun i _ _ h11 => u4 i h11) ⟨w s0 0 (by decide) (by decide) r0, u3, w s2 2 (by decide) (by decide) r2, w s3 3 (by decide) (by decide) r3⟩⟩
    · obtain ⟨q, s', g', u1, u2, u3, u4, u5⟩ := lay_one (by decide) r2 b c
      have w := ro g' u4 u5
      rw [if_neg (by decide), if_neg (by decide), if_pos rfl, u1, u2]
      simp only [Option.bind_some]
      refine ⟨if q = 0 then nI 1 else -10 - q, s0, s1, s', s3, g', by split <;> rfl, rfl, Rel_sheets R0 (fun i _ _ h11 => u4 i h11) ⟨w s0 0 (by decide) (by decide) r0, w s1 1 (by decide) (by decide) r1, u3, w s3 3 (by decide) (by decide) r3⟩⟩
    · obtain ⟨q, s', g', u1, u2, u3, u4, u5⟩ := lay_one (by decide) r3 b c
      have w := ro g' u4 u5
      rw [if_neg (by decide), if_neg (by decide), if_neg (by decide), if_pos rfl, u1, u2]
      simp only [Option.bind_some]
      refine ⟨if q = 0 then nI 1 else -10 - q, s0, s1, s2, s', g', by split <;> rfl, rfl, Rel_sheets R0 (fun i _ _ h11 => u4 i h11) ⟨w s0 0 (by decide) (by decide) r0, w s1 1 (by decide) (by decide) r1, w s2 2 (by decide) (by decide) r2, u3⟩⟩
end OPSE
