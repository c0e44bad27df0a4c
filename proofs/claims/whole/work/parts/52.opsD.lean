/-! ===== the calls, one by one: by a seed ===== -/
section OPSD
variable {x0 x1 x2 x3 x4 x5 x6 x7 x8 s0 s1 s2 s3 g : Mem} {A : Fk}
theorem drawn_eq (y : Int32) : (y >>> ((nI 16) &&& 31)) &&& (nI 32767) = (y.toUInt32 >>> ((nI 16).toUInt32 &&& Int32.toUInt32 31)).toInt32 &&& (nI 32767) := by
  rw [pk_and (y >>> ((nI 16) &&& 31)) (m := nI 32767) 15 (by decide), pk_and ((y.toUInt32 >>> ((nI 16).toUInt32 &&& Int32.toUInt32 31)).toInt32) (m := nI 32767) 15 (by decide), pk_ushr y (nI 16) 16 (by decide)]
  have e := pk_shr y ((nI 16) &&& 31) 16 (by decide)
  rw [Int.shiftRight_eq_div_pow] at e
  congr 1
  generalize (y >>> ((nI 16) &&& 31)) = z at e ⊢
  have hz : z.toInt = _ := BitVec.toInt_eq_toNat_cond z.toBitVec
  have hy : y.toInt = _ := BitVec.toInt_eq_toNat_cond y.toBitVec
  have lz := z.toBitVec.isLt
  have ly := y.toBitVec.isLt
  rw [hz, hy] at e
  generalize z.toBitVec.toNat = a at e lz ⊢
  generalize y.toBitVec.toNat = b at e ly ⊢
  split at e <;> split at e <;> omega
theorem rmI_nI {j n d : Nat} (hj : j < 2 ^ 31) (hd : 0 < d) (hd2 : d < 2 ^ 31) (h0 : 0 < n) (hn : n < 2 ^ 31) : rmI (nI j / nI d) n = nI (j / d % n) := by
  unfold rmI
  rw [pk_div hj hd hd2, pk_rem (by have := Nat.div_le_self j d; omega) h0 hn]
theorem op_drift (R : Rel x0 x1 x3 x4 x5 x6 x8 s0 s1 s2 s3 g) (x2 : Mem) (a b c : Int32) : ∃ r x2' g', p_X6_drift x0 x1 x2 a b c = some (r, x2') ∧ p_X7_drift g a b c = some (r, g') ∧ Rel x0 x1 x3 x4 x5 x6 x8 s0 s1 s2 s3 g' := by
  have R0 := R
  obtain ⟨A, h, hk, hm, hR⟩ := R
  have h3 := hk.1.1
  unfold p_X6_drift p_X7_drift
  rw [isWithin_eq, isWithin_eq, in_c1 60 (by decide), in_c01, h.1.1, hm.1]
  simp only [Option.bind_some, bI_0]
  cases hO : wi b (nI 1) (nI 60) with
  | false => exact ⟨-1, x2, g, rfl, rfl, R0⟩
  | true =>
    obtain ⟨n, hn1, hn, rfl⟩ := wi_in (by decide) (by decide) hO
    rw [ite_tf, ite_tf]
    cases hW : wi c (nI 0) (nI 1) with
    | false => exact ⟨-1, x2, g, rfl, rfl, R0⟩
    | true =>
      rw [ite_tf, ite_tf]
      by_cases h0 : A 0 0 = 0
      · rw [if_neg (fun z => by have := (nI_leI (by decide) (by omega)).mp z; omega), if_pos ((nI_z (by omega)).mpr h0)]
        exact ⟨-2, x2, g, rfl, rfl, R0⟩
      · rw [if_pos ((nI_leI (by decide) (by omega)).mpr (by omega)), if_neg (fun z => h0 ((nI_z (by omega)).mp z))]
        obtain ⟨f1, c1, c2⟩ := copyFrom_eq (f := x2) h hk
        obtain ⟨g1, t1, t2, t3⟩ := copyOn_eq (b := 240) hk hm (by decide) (by decide) (.inl (by decide))
        rw [c1, t1]
        simp only [Option.bind_some]
        obtain ⟨x, y, e1, e2, e3⟩ := lq2 (b := p_X6_drift_L58 x0 x1 (nI n) c) (c := p_X7_drift_L54 (nI n) c)
          (fun i s t => s.1 = t.1 ∧ s.2.1 = t.2.1 ∧ s.2.2.1 = t.2.2.1 ∧ s.2.2.2.1 = nI i ∧ t.2.2.2.1 = nI i ∧ ∃ B, enc s.2.2.2.2 B ∧ okF B ∧ B 0 0 = A 0 0 ∧ MS t.2.2.2.2 240 B ∧ Keep g t.2.2.2.2)
          (fun x y => x.1 = y.1 ∧ x.2.1 = y.2.1 ∧ Keep g y.2.2) n
          (fun i hi s t hst => by
            obtain ⟨p1, p2, p3, p4, p5⟩ := s
            obtain ⟨r1, r2, r3, r4, r5⟩ := t
            obtain ⟨rfl, rfl, rfl, rfl, rfl, B, z1, z2, z3, z4, z5⟩ := hst
            dsimp only at z1 z4 z5
            unfold p_X6_drift_L58 p_X7_drift_L54
            dsimp only
            rw [if_neg (nI_ge hi (by omega)), if_neg (nI_ge hi (by omega)), drawn_eq]
            generalize p1 * (1103515245 : Int32) + (nI 12345) = y
            obtain ⟨j, hj, ej⟩ := pk_andE ((y.toUInt32 >>> ((nI 16).toUInt32 &&& Int32.toUInt32 31)).toInt32) (m := nI 32767) 15 (by decide)
            rw [ej, z4.1]
            obtain ⟨f2, q1, q2, q3⟩ := tryDrawn_eq z1 z2 (nI j)
            rw [q1]
            simp only [Option.bind_some, bI_0]
            have n1 := Nat.mod_lt (j / 4) (show 0 < 5 by decide)
            have n2 := Nat.mod_lt (j / 32) (show 0 < 5 by decide)
            have n3 := Nat.mod_lt (j / 256) (show 0 < 9 by decide)
            have n4 := Nat.mod_lt j (show 0 < B 0 0 by omega)
            have b3 := z2.1.1
            have d1 : rmI (nI j / nI 4) 5 = nI (j / 4 % 5) := rmI_nI (by omega) (by decide) (by decide) (by decide) (by decide)
            have d2 : rmI (nI j / nI 32) 5 = nI (j / 32 % 5) := rmI_nI (by omega) (by decide) (by decide) (by decide) (by decide)
            have d3 : nI 1 + rmI (nI j / nI 256) 9 = nI (1 + j / 256 % 9) := by rw [rmI_nI (by omega) (by decide) (by decide) (by decide) (by decide), nI_add]
            have d4 : rmI (nI j) (B 0 0) = nI (j % B 0 0) := pk_rem (by omega) (by omega) (by omega)
            have eD : canD B (nI j) = canI B (nI (j / 4 % 5)) (nI (j / 32 % 5)) (nI (j % B 0 0)) (nI (1 + j / 256 % 9)) := by
              unfold canD
              rw [d1, d2, d3, d4, decide_eq_true (show 1 ≤ B 0 0 by omega), Bool.true_and]
            have eT : tryD B (nI j) = tryT B (nI (j / 4 % 5)) (nI (j / 32 % 5)) (nI (j % B 0 0)) (nI (1 + j / 256 % 9)) := by
              unfold tryD
              rw [d1, d2, d3, d4, if_pos (show 1 ≤ B 0 0 by omega)]
            rw [eT] at q2 q3
            have m1 : (nI j / nI 4) - (nI j / nI 4) / nI 5 * nI 5 = nI (j / 4 % 5) := d1
            have m2 : (nI j / nI 32) - (nI j / nI 32) / nI 5 * nI 5 = nI (j / 32 % 5) := d2
            have m3 : nI 1 + ((nI j / nI 256) - (nI j / nI 256) / nI 9 * nI 9) = nI (1 + j / 256 % 9) := d3
            have m4 : nI j - nI j / nI (B 0 0) * nI (B 0 0) = nI (j % B 0 0) := d4
            have wk : ∀ (f : Mem) (G : Mem) (C : Fk), enc f C → okF C → C 0 0 = A 0 0 → MS G 240 C → Keep g G → ∃ f' G', p_X0_passWeek f = some (nI (laid true C), f') ∧ p_X7_drift_B145 G (nI n) c y p2 p3 (nI i) = some (.inl (y, p2 + nI (laid true C), p3, nI (i + 1), G')) ∧ ∃ B, enc f' B ∧ okF B ∧ B 0 0 = A 0 0 ∧ MS G' 240 B ∧ Keep g G' := fun f G C y1 y2 y3 y4 y5 => by
              obtain ⟨f', u1, u2⟩ := passWeek_eq y1 y2
              obtain ⟨G', v1, v2, v3⟩ := weekOn_eq (m := true) y4 y2 (by decide)
              refine ⟨f', G', u1, ?_, week true C, u2, okF_week y2, by rw [week_00]; exact y3, v2, Keep_tr y5 (Fr_Keep v3 (by decide))⟩
              unfold p_X7_drift_B145
              rw [show nI 1 = bI true from rfl, v1]
              simp only [Option.bind_some]
              rw [show bI true = nI 1 from rfl, nI_add]
            by_cases hbs : j / 4 % 5 = j / 32 % 5
            · have hno : isT B (nI (j / 4 % 5)) (nI (j / 32 % 5)) (nI (j % B 0 0)) (nI (1 + j / 256 % 9)) = false := by
                unfold isT
                rw [hbs, decide_eq_true rfl]
                simp
              have hci : canI B (nI (j / 4 % 5)) (nI (j / 32 % 5)) (nI (j % B 0 0)) (nI (1 + j / 256 % 9)) = false := by
                unfold canI
                rw [hno, Bool.false_and]
              have htr : tryT B (nI (j / 4 % 5)) (nI (j / 32 % 5)) (nI (j % B 0 0)) (nI (1 + j / 256 % 9)) = B := by
                unfold tryT
                rw [hci, if_neg (by decide)]
              rw [htr] at q2
              obtain ⟨f3, G3, u1, u2, u3⟩ := wk f2 r5 B q2 z2 z3 z4 z5
              rw [eD, hci, ite_ff, u1, m1, m2, if_pos (by rw [hbs]), u2]
              simp only [Option.bind_some, nI_add]
              exact .inl ⟨_, _, rfl, rfl, rfl, rfl, rfl, rfl, rfl, u3⟩
            · have hci := canI_nI b3 n1 n2 hbs n4 (show 1 ≤ 1 + j / 256 % 9 by omega) (show 1 + j / 256 % 9 ≤ 9 by omega)
              have htr := tryT_nI b3 n1 n2 hbs n4 (show 1 ≤ 1 + j / 256 % 9 by omega) (show 1 + j / 256 % 9 ≤ 9 by omega)
              obtain ⟨G2, v1, v2, v3⟩ := buysOn_eq z4 z2 (by decide) n1 n2 n4 (show 1 + j / 256 % 9 < 1000 by omega)
              rw [← htr] at v2
              have kt : tryT B (nI (j / 4 % 5)) (nI (j / 32 % 5)) (nI (j % B 0 0)) (nI (1 + j / 256 % 9)) 0 0 = A 0 0 := by rw [tryT_no (by decide) (by decide)]; exact z3
              have k2 := Keep_tr z5 (Fr_Keep v3 (by decide))
              rw [eD, hci, m1, m2, m3, m4, if_neg (fun z => hbs ((nI_eq (by omega) (by omega)).mp z)), gd_t (nz_nI (by omega) (by omega)), v1]
              simp only [Option.bind_some, bI_0]
              cases hct : canT B (j / 4 % 5) (j / 32 % 5) (j % B 0 0) (1 + j / 256 % 9) with
              | false =>
                obtain ⟨f3, G3, u1, u2, u3⟩ := wk f2 G2 _ q2 q3 kt v2 k2
                rw [ite_ff, ite_ff, u1, u2]
                simp only [Option.bind_some, nI_add]
                exact .inl ⟨_, _, rfl, rfl, rfl, rfl, rfl, rfl, rfl, u3⟩
              | true =>
                rw [ite_tf, ite_tf, nI_add]
                exact .inl ⟨_, _, rfl, rfl, rfl, rfl, rfl, rfl, rfl, _, q2, q3, kt, v2, k2⟩)
          (fun s t hst => by
            obtain ⟨p1, p2, p3, p4, p5⟩ := s
            obtain ⟨r1, r2, r3, r4, r5⟩ := t
            obtain ⟨rfl, rfl, rfl, rfl, rfl, B, z1, z2, z3, z4, z5⟩ := hst
            unfold p_X6_drift_L58 p_X7_drift_L54
            dsimp only
            rw [if_pos (Int32.le_refl _), if_pos (Int32.le_refl _)]
            exact ⟨_, _, rfl, rfl, rfl, rfl, z5⟩) (i := 0) (s := (a, nI 0, nI 0, nI 0, f1)) (t := (a, nI 0, nI 0, nI 0, g1)) (by omega) ⟨rfl, rfl, rfl, rfl, rfl, A, c2, hk, rfl, t2, Fr_Keep t3 (by decide)⟩
        rw [e1, e2]
        simp only [Option.bind_some]
        obtain ⟨p1, p2, p3⟩ := x
        obtain ⟨r1, r2, r3⟩ := y
        obtain ⟨rfl, rfl, k1⟩ := e3
        dsimp only at k1 ⊢
        by_cases hc : c = 0
        · rw [if_pos hc, if_pos hc]
          exact ⟨_, _, _, rfl, rfl, Rel_Keep R0 k1⟩
        · rw [if_neg hc, if_neg hc]
          exact ⟨_, _, _, rfl, rfl, Rel_Keep R0 k1⟩
end OPSD
