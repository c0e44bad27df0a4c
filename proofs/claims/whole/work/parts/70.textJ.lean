/-! ===== the text: both together ===== -/
section TXJ
variable {x0 x1 x3 x4 x5 x6 x8 s0 s1 s2 s3 g : Mem}
theorem op_text (R : Rel x0 x1 x3 x4 x5 x6 x8 s0 s1 s2 s3 g) (x7 : Mem) : ∃ r x0' x1' x5' x6' x7' x8' g', p_X6_text x0 x1 x5 x6 x7 x8 = some (r, x0', x1', x5', x6', x7', x8') ∧ p_X7_text g = some (r, g') ∧ Rel x0' x1' x3 x4 x5' x6' x8' s0 s1 s2 s3 g' := by
  have R0 := R
  obtain ⟨-, -, -, -, ⟨n, hn, hx, hg5, hb⟩, -, -, -, -, -, hc⟩ := R
  obtain ⟨t, ht⟩ : ∃ t : Nat → Nat, ∀ k, k < n → t k ≤ 127 ∧ x5 1 k = nI (t k) ∧ g 3 k = nI (t k) := ⟨fun k => (x5 1 k).toNatClampNeg, fun k hk => by
    obtain ⟨c, h1, h2, h3⟩ := hb k hk
    dsimp only
    rw [h2, nI_clamp (by omega)]
    exact ⟨h1, rfl, h3⟩⟩
  obtain ⟨d0, c1, c2⟩ := clear_eq x7
  obtain ⟨g2, z1, z2, z3⟩ := zero_eq (mset 0 4 (-1 : Int32) (mset 0 3 (nI 0) (mset 0 2 (nI 0) (mset 0 1 (nI 0) (mset 0 9 (nI 0) (mset 0 7 (nI 0) g))))))
  have z0 := z3 0 (by decide)
  have zo : ∀ j, j ≠ 4 → j ≠ 3 → j ≠ 2 → j ≠ 1 → j ≠ 9 → j ≠ 7 → g2 0 j = g 0 j := fun j h1 h2 h3 h4 h5 h6 => by
    rw [z0, mset_no h1, mset_no h2, mset_no h3, mset_no h4, mset_no h5, mset_no h6]
  have zr : ∀ i, i ≠ 0 → i ≠ 2 → g2 i = g i := fun i h1 h2 => by
    rw [z3 i h2, mset_ne h1, mset_ne h1, mset_ne h1, mset_ne h1, mset_ne h1, mset_ne h1]
  have bm : BM g2 n t := ⟨hn, by rw [zo 5 (by decide) (by decide) (by decide) (by decide) (by decide) (by decide)]; exact hg5, fun k hk => ⟨(ht k hk).1, by rw [zr 3 (by decide) (by decide)]; exact (ht k hk).2.2⟩⟩
  obtain ⟨g3, s1', s2', s3'⟩ := step_eq bm (Nat.zero_le n) (by rw [z0, mset_no (by decide), mset_no (by decide), mset_no (by decide), mset_no (by decide), mset_no (by decide), mset_s]) (by rw [z0, mset_no (by decide), mset_no (by decide), mset_no (by decide), mset_no (by decide), mset_s])
  have g3o : ∀ j, j = 0 ∨ j = 21 ∨ j = 22 ∨ j = 5 ∨ j = 6 → g3 0 j = g 0 j := fun j hj => by
    rw [s2'.1 j (by unfold J7; omega), zo j (by omega) (by omega) (by omega) (by omega) (by omega) (by omega)]
  have g3r : ∀ i, i ≠ 0 → i ≠ 2 → g3 i = g i := fun i h1 h2 => by rw [s2'.2 i h1, zr i h1 h2]
  have hc3 : R_const g3 := by
    unfold R_const
    rw [g3r 4 (by decide) (by decide), g3r 5 (by decide) (by decide)]
    exact hc
  have L : Lk (mset 0 5 (nI 0) (mset 0 4 (nI 0) (mset 0 3 (nI 0) (mset 0 2 (nI 0) (mset 0 1 (nI 0) (mset 0 0 (nI 0) x6)))))) (mset 0 3 (nI 0) (mset 0 2 (nI 0) (mset 0 1 (nI 0) x5))) g3 n t 0 := by
    refine ⟨?_, ⟨hn, ?_, fun k hk => ⟨(ht k hk).1, ?_⟩⟩, ?_, Nat.zero_le n, BM_But bm s2' (by unfold J7; omega), s3'⟩
    · rw [mset_no (by decide), mset_no (by decide), mset_no (by decide), mset_no (by decide), mset_s]
    · rw [mset_no (by decide), mset_no (by decide), mset_no (by decide)]; exact hx
    · rw [mset_ne (by decide), mset_ne (by decide), mset_ne (by decide)]; exact (ht k hk).2.1
    · rw [mset_no (by decide), mset_no (by decide), mset_s]
  have D : DI (mset 0 5 (nI 0) (mset 0 4 (nI 0) (mset 0 3 (nI 0) (mset 0 2 (nI 0) (mset 0 1 (nI 0) (mset 0 0 (nI 0) x6)))))) d0 g3 A0 (fun _ => false) 0 0 := by
    refine ⟨c2, okD_0, MS_0 ?_ (fun k hk => ?_), ⟨?_, ?_, by decide⟩, ⟨?_, ?_, by decide⟩, ?_, ?_⟩
    · show g3 0 1 = nI 0
      rw [s2'.1 1 (by unfold J7; omega), z0, mset_no (by decide), mset_no (by decide), mset_no (by decide), mset_s]
    · show g3 2 k = nI 0
      rw [s2'.2 2 (by decide)]; exact z2 k hk
    · rw [mset_no (by decide), mset_no (by decide), mset_s]
    · rw [s2'.1 2 (by unfold J7; omega), z0, mset_no (by decide), mset_no (by decide), mset_s]
    · rw [mset_no (by decide), mset_s]
    · rw [s2'.1 3 (by unfold J7; omega), z0, mset_no (by decide), mset_s]
    · rw [mset_s]; rfl
    · rw [s2'.1 4 (by unfold J7; omega), z0, mset_s]; rfl
  obtain ⟨f4, d4, X4, x, g4, a1, a2, a3, a4⟩ := loop_both n 0 _ d0 _ g3 0 A0 _ 0 0 (by omega) L D hc3 (by rw [mset_no (by decide), mset_no (by decide), mset_no (by decide), mset_no (by decide), mset_no (by decide), mset_s]) (Nat.le_refl 0)
  have g4o : ∀ j, j = 0 ∨ j = 21 ∨ j = 22 ∨ j = 5 ∨ j = 6 → g4 0 j = g 0 j := fun j hj => by
    rw [a3.1 j (by omega) (by unfold J7; omega)]; exact g3o j hj
  have g4r : ∀ i, i ≠ 0 → i ≠ 2 → g4 i = g i := fun i h1 h2 => by rw [a3.2 i h1 h2]; exact g3r i h1 h2
  have cls : p_X5_readAll x6 x7 x5 = p_X5_readAll_B72 f4 d4 X4 := by
    unfold p_X5_readAll p_X4_rewind
    rw [c1]
    simp only [Option.bind_some]
    rw [a1]
    rfl
  have mdl : p_X7_text g = p_X7_text_B81 g4 x := by
    unfold p_X7_text
    rw [z1]
    simp only [Option.bind_some]
    rw [s1']
    simp only [Option.bind_some]
    rw [a2]
    rfl
  have fin : ∀ f5 d5 X5 g5, Fdd f5 g5 → (∀ j, j = 0 ∨ j = 21 ∨ j = 22 → g5 0 j = g 0 j) → (∀ i, i ≠ 0 → i ≠ 2 → g5 i = g i) → p_X5_readAll x6 x7 x5 = some (f5, d5, X5) → p_X7_text g = p_X7_text_B105 g5 x → ∃ r x0' x1' x5' x6' x7' x8' g', p_X6_text x0 x1 x5 x6 x7 x8 = some (r, x0', x1', x5', x6', x7', x8') ∧ p_X7_text g = some (r, g') ∧ Rel x0' x1' x3 x4 x5' x6' x8' s0 s1 s2 s3 g' := fun f5 d5 X5 g5 F h1 h2 h3 h4 => by
    have F0 := F
    obtain ⟨c, q, -, -, u1, u2, u3, u4, -⟩ := F
    refine ⟨-10 - f5 0 2, x0, x1, mset 0 0 (nI 0) X5, f5, d5, x8, mset 0 6 (g5 0 7) (mset 0 5 (nI 0) g5), ?_, ?_, Rel_fault R0 (fun j hj => ?_) (fun i i1 i2 => ?_) mset_s ?_ ?_⟩
    · unfold p_X6_text
      rw [h3]
      simp only [Option.bind_some]
      rw [if_neg (Fdd_f F0)]
    · rw [h4]
      unfold p_X7_text_B105
      rw [if_neg (Fdd_g F0).2, u2, u4]
    · rw [mset_no (by omega), mset_no (by omega)]; exact h1 j hj
    · rw [mset_ne i1, mset_ne i1]; exact h2 i i1 i2
    · rw [mset_no (by decide), mset_s]
    · rw [mset_s, u1, u3]
  rcases a4 with F | ⟨b1, b2, b3, b4, b5, A, G, T, U, D1, D2, D3, -, -, D6, D7⟩
  · refine fin f4 d4 X4 g4 F (fun j hj => g4o j (by omega)) g4r ?_ ?_
    · rw [cls]
      unfold p_X5_readAll_B72
      by_cases h : ((f4 0 5) >>> ((d4 0 0) &&& 31)) = 0
      · rw [if_pos h]
      · rw [if_neg h, ref_no (Fdd_f F)]; rfl
    · rw [mdl]
      unfold p_X7_text_B81
      rw [if_neg (Fdd_g F).1]
  · have gt := g_told G D2.1.1
    have d00 : d4 0 0 = nI (A 0 0) := D1.1.1
    have g01 : g4 0 1 = nI (A 0 0) := D3.1
    by_cases hlt : ghI G < nI (A 0 0)
    · obtain ⟨y1, p1, p2⟩ := copyFrom_eq (f := x1) D1 (okF_D D2 (gt.2 hlt))
      obtain ⟨g6, o1, o2, o3, o4⟩ := over_eq x (mset 0 6 (g4 0 7) (mset 0 5 (nI 0) g4))
      have i0 : inb (nI 0) 2 = true := by decide
      have i1 : inb (nI 1) 2 = true := by decide
      have e0 : (nI 0).toNatClampNeg = 0 := by decide
      have e1 : (nI 1).toNatClampNeg = 1 := by decide
      have g60 := o4 0 (by decide)
      refine ⟨f4 0 0, mset 0 0 (nI 0) x0, y1, mset 0 0 (nI 0) X4, f4, d4, mset 0 0 (nI 0) x8, mrow 8 (upd (upd (g6 8) 0 (nI 0)) 1 (nI 0)) (mrow 8 (upd (g6 8) 0 (nI 0)) (mset 0 21 (nI 0) (mset 0 0 (g6 0 1) g6))), ?_, ?_, Rel_taken R0 (B := A) ?_ (fun i h3 h8 => ?_) p2 (okF_D D2 (gt.2 hlt)) ?_ mset_s ?_ ?_ mset_s (mset_no (by decide)) ?_ ?_ mset_s ?_⟩
      · unfold p_X6_text
        rw [cls]
        unfold p_X5_readAll_B72
        rw [D6, d00, if_pos (gt.1.mpr hlt)]
        simp only [Option.bind_some]
        rw [if_pos (show f4 0 1 = 0 from b1), p1]
        rfl
      · rw [mdl]
        unfold p_X7_text_B81 p_X7_text_B105
        rw [if_pos (show g4 0 7 = 0 from b4), D7, g01, if_pos hlt, if_pos (by rw [b4]; decide), o1]
        simp only [Option.bind_some]
        rw [gd_t i0, gd_t i1, e0, e1, b2]
      · rw [mrow_ne (by decide), mrow_ne (by decide), mset_no (by decide), mset_no (by decide), g60, mset_no (by decide), mset_no (by decide)]; exact g4o 22 (by decide)
      · rw [mrow_ne h8, mrow_ne h8, mset_ne (by omega), mset_ne (by omega), o4 i (by omega), mset_ne (by omega), mset_ne (by omega)]; exact g4r i (by omega) (by omega)
      · refine ⟨?_, fun i j hij => ?_⟩
        · rw [mrow_ne (by decide), mrow_ne (by decide), mset_no (by decide), mset_s, g60, mset_no (by decide), mset_no (by decide)]; exact g01
        · have hl := sl_lt (okF_D D2 (gt.2 hlt)).1.1 (okF_D D2 (gt.2 hlt)).1.2 hij
          have h := D3.2 i j hij
          rw [Nat.zero_add] at h ⊢
          rw [mrow_ne (by decide), mrow_ne (by decide), mset_ne (by decide), mset_ne (by decide), o2 _ hl, mset_ne (by decide), mset_ne (by decide)]
          exact h
      · rw [mrow_ne (by decide), mrow_ne (by decide), mset_no (by decide), mset_no (by decide), g60, mset_no (by decide), mset_s]
      · rw [mrow_ne (by decide), mrow_ne (by decide), mset_no (by decide), mset_no (by decide), g60, mset_s, b4]; exact b1
      · rw [mrow_s, pk_un (by decide), pk_us]
      · rw [mrow_s, pk_us]
      · rw [mrow_ne (by decide), mrow_ne (by decide), mset_s]
    · have F : Fdd (mset 0 2 (X4 0 0) (mset 0 1 (nI 6) f4)) (mset 0 8 (g4 0 10) (mset 0 7 (nI 6) g4)) := Fdd_new (by decide) (by decide) hn b3 b5
      refine fin _ d4 X4 _ F (fun j hj => ?_) (fun i i1 i2 => ?_) ?_ ?_
      · rw [mset_no (by omega), mset_no (by omega)]; exact g4o j (by omega)
      · rw [mset_ne i1, mset_ne i1]; exact g4r i i1 i2
      · rw [cls]
        unfold p_X5_readAll_B72
        rw [D6, d00, if_neg (fun z => hlt (gt.1.mp z)), ref_yes b1]
        rfl
      · rw [mdl]
        unfold p_X7_text_B81
        rw [if_pos (show g4 0 7 = 0 from b4), D7, g01, if_neg hlt, fails_yes b4]
        rfl
end TXJ
