/-! ===== the calls, one by one: trades read of a sheet ===== -/
section OPSF
variable {x0 x1 x2 x3 x4 x5 x6 x7 x8 s0 s1 s2 s3 g : Mem} {A : Fk}
theorem lp_s {σ ρ : Type} {b : σ → Option (σ ⊕ ρ)} {s s' : σ} (h : b s = some (.inl s')) : lp b s = lp b s' := by rw [lp_eq, h]; rfl
theorem lp_r {σ ρ : Type} {b : σ → Option (σ ⊕ ρ)} {s : σ} {x : ρ} (h : b s = some (.inr x)) : lp b s = some x := by rw [lp_eq, h]; rfl
theorem buys_eq {G : Mem} {B : Fk} (hm : MS G 0 B) (hk : okF B) (y1 y2 y3 y4 : Int32) : ∃ r G', p_X7_buys G y1 y2 y3 y4 = some (r, G') ∧ MS G' 0 (tryT B y1 y2 y3 y4) ∧ Fr 0 G G' ∧ (0 ≤ r ↔ canI B y1 y2 y3 y4 = true) := by
  have h3 := hk.1.1
  unfold p_X7_buys
  rw [isTradeM_eq hm.1]
  simp only [Option.bind_some, bI_0]
  cases hT : isT B y1 y2 y3 y4 with
  | false =>
    have hc : canI B y1 y2 y3 y4 = false := by unfold canI; rw [hT, Bool.false_and]
    refine ⟨-1, G, rfl, ?_, Fr_rfl 0 G, by rw [hc]; decide⟩
    unfold tryT
    rw [hc, if_neg (by decide)]
    exact hm
  | true =>
    obtain ⟨bb, ss, gg, nn, rfl, rfl, rfl, rfl, hb, hs, hbs, hg, hn1, hn⟩ := isT_of hk hT
    obtain ⟨g', q1, q2, q3⟩ := buysOn_eq hm hk (by decide) hb hs hg (show nn < 1000 by omega)
    rw [← tryT_nI h3 hb hs hbs hg hn1 hn] at q2
    rw [canI_nI h3 hb hs hbs hg hn1 hn, ite_tf, q1]
    simp only [Option.bind_some, bI_0]
    cases hc : canT B bb ss gg nn with
    | false => exact ⟨-2, g', rfl, q2, q3, by decide⟩
    | true =>
      have ok2 := okF_tryT hk (nI bb) (nI ss) (nI gg) (nI nn)
      have hle := ok2.2.2.2.1 bb hb
      rw [ite_tf, moneyOn_eq q2 (by decide) hb]
      refine ⟨_, g', rfl, q2, q3, ⟨fun _ => rfl, fun _ => ?_⟩⟩
      exact (nI_leI (a := 0) (by decide) (by omega)).mpr (Nat.zero_le _)
/-- the class's loop over trades, of whichever sheet -/
noncomputable def rdL (f fnow s : Mem) (x2 x3 x4 : Int32) (z : Int32 × Int32 × Int32 × Mem) : Option ((Int32 × Int32 × Int32 × Mem) ⊕ ((Int32 × Int32 × Mem) ⊕ (Int32 × Mem × Mem × Mem))) :=
  match z with
  | (x6, x7, x8, ftrial_) =>
    if x4 ≤ x8 then
      (some (Sum.inr (Sum.inl (x6, x7, ftrial_))))
    else
      (if x6 = 0 then
         (Option.bind (p_X2_faultOfTrade s x2 (x3 + ((nI 4) * x8))) <| fun r80 =>
          if r80 = 0 then
            (Option.bind (p_X2_tradeOn s ftrial_ (x3 + ((nI 4) * x8))) <| fun (r98, ftrial_98) =>
             if r98 = 0 then
               (some (Sum.inr (Sum.inr (((-20 : Int32) - x8), f, fnow, ftrial_98))))
             else
               (some (Sum.inl (r80, (x7 + nI 1), (x8 + nI 1), ftrial_98))))
          else
            (some (Sum.inl (r80, x7, (x8 + nI 1), ftrial_))))
       else
         (some (Sum.inr (Sum.inl (x6, x7, ftrial_)))))
def RQ (g : Mem) (A : Fk) (x0 x1 : Mem) (x : (Int32 × Int32 × Mem) ⊕ (Int32 × Mem × Mem × Mem)) (y : (Int32 × Int32 × Mem) ⊕ (Int32 × Mem)) : Prop :=
  (∃ code w B ft G, x = .inl (code, w, ft) ∧ y = .inl (code, w, G) ∧ enc ft B ∧ okF B ∧ B 0 0 = A 0 0 ∧ MS G 0 B ∧ Keep0 g G) ∨ (∃ r ft G, x = .inr (r, x0, x1, ft) ∧ y = .inr (r, G) ∧ Keep g G)
def KR (g G : Mem) : Prop := Keep0 g G ∧ ∀ k, k < 60 → G 1 (180 + k) = g 1 k
theorem KR_Fr {G G' : Mem} (h : KR g G) (hf : Fr 0 G G') : KR g G' := ⟨Keep0_tr h.1 (Fr_Keep0 hf (.inl rfl)), fun k hk => by rw [hf.2 _ (by omega)]; exact h.2 k hk⟩
/-- a fault ends both loops -/
theorem rd_c {s ft : Mem} {y2 y3 : Int32} {code w z : Int32} {n : Nat} (hc : ¬ code = 0) : lp (rdL x0 x1 s y2 y3 (nI n)) (code, w, z, ft) = some (.inl (code, w, ft)) := by
  refine lp_r ?_
  unfold rdL
  dsimp only
  by_cases h : nI n ≤ z
  · rw [if_pos h]
  · rw [if_neg h, if_neg hc]
theorem rd_m {G : Mem} {y1 y2 y3 y4 code w z : Int32} (hc : ¬ code = 0) : lp (p_X7_read_L56 y1 y2 y3 y4) (code, w, z, G) = some (.inl (code, w, G)) := by
  refine lp_r ?_
  unfold p_X7_read_L56
  dsimp only
  by_cases h : nI 4 * y4 ≤ z
  · rw [if_pos h]
  · rw [if_neg h, if_neg hc]
theorem rd_B {G : Mem} {y1 y2 y3 y4 code w z : Int32} (hc : ¬ code = 0) : p_X7_read_B126 G y1 y2 y3 y4 w z code = some (.inl (code, w, z + nI 1, G)) := by
  unfold p_X7_read_B126
  rw [if_neg hc]
theorem hasG_dec {n a : Nat} (hn : n < 2 ^ 31) (ha : a < 2 ^ 31) : hasG n (nI a) = decide (a < n) := by
  by_cases h : a < n
  · rw [hasG_nI hn h, decide_eq_true h]
  · rw [decide_eq_false h]
    cases hq : hasG n (nI a) with
    | false => rfl
    | true =>
      obtain ⟨j, hj, e⟩ := hasG_of hn hq
      exact absurd hj (by rw [← (nI_eq ha (by omega)).mp e]; exact h)
theorem lN_ad (a b : Nat) : lN a + lN b = lN (a + b) := (Int64.ofNat_add a b).symm
theorem cellIn_0 (f : Int32) (n0 : Nat) : p_X7_in (f.toInt64 + (nI 0).toInt64) (lN 0) ((nI n0 - nI 1).toInt64) = some (bI (hasG n0 f)) := by
  rw [show (nI 0).toInt64 = 0 from by decide, Int64.add_zero, in_0]
  rfl
theorem cellIn_F {F c n0 : Nat} (hF : F < 1000) (hc : c < 1000) (hn : n0 < 1000) : p_X7_in ((nI F).toInt64 + (nI c).toInt64) (lN 0) ((nI n0 - nI 1).toInt64) = some (bI (decide (F + c < n0))) := by
  rw [toL (by omega), toL (by omega), lN_ad, ← toL (by omega), in_0, ← hasG_dec (by omega) (by omega)]
  rfl
theorem cell_step {G : Mem} {k l n c : Nat} {f w : Int32} {q : Bool} (hk4 : k < 4) (hc : c < 4 * n) (hn : n ≤ 10) (h9 : G 9 k = nI l) (hl : l < 3) (hin : p_X7_in (f.toInt64 + (nI c).toInt64) (lN 0) (((G 10 k) - nI 1).toInt64) = some (bI q)) : p_X7_read_L56 (nI k) (nI l) f (nI n) (nI 0, w, nI c, G) = p_X7_read_B126 G (nI k) (nI l) f (nI n) w (nI c) (if q = true then nI 0 else nI 2) := by
  have i4 : inb (nI k) 4 = true := inb_nI hk4 (by decide)
  unfold p_X7_read_L56
  dsimp only
  rw [pk_mul, if_neg (nI_ge hc (by omega)), if_pos (show nI 0 = 0 from rfl), gd_t i4, nI_clamp (by omega), h9, if_neg (nI_m (by omega) (by decide)), gd_t i4, if_pos rfl, gd_t i4, hin]
  simp only [Option.bind_some, bI_0]
  cases q <;> rfl
theorem cell_out {G : Mem} {k l n c : Nat} {f w : Int32} (hk4 : k < 4) (hc : c < 4 * n) (hn : n ≤ 10) (h9 : G 9 k = nI l) (hl : l < 3) (hin : p_X7_in (f.toInt64 + (nI c).toInt64) (lN 0) (((G 10 k) - nI 1).toInt64) = some (bI false)) : lp (p_X7_read_L56 (nI k) (nI l) f (nI n)) (nI 0, w, nI c, G) = some (.inl (nI 2, w, G)) := by
  have h := cell_step (w := w) hk4 hc hn h9 hl hin
  rw [if_neg (by decide), rd_B (by decide)] at h
  rw [lp_s h]
  exact rd_m (by decide)
theorem cell_on {G : Mem} {k l n c : Nat} {f w : Int32} (hk4 : k < 4) (hc : c < 4 * n) (hn : n ≤ 10) (h3 : c % 4 ≠ 3) (h9 : G 9 k = nI l) (hl : l < 3) (hin : p_X7_in (f.toInt64 + (nI c).toInt64) (lN 0) (((G 10 k) - nI 1).toInt64) = some (bI true)) : lp (p_X7_read_L56 (nI k) (nI l) f (nI n)) (nI 0, w, nI c, G) = lp (p_X7_read_L56 (nI k) (nI l) f (nI n)) (nI 0, w, nI (c + 1), G) := by
  have h := cell_step (w := w) hk4 hc hn h9 hl hin
  rw [if_pos rfl] at h
  have e : p_X7_read_B126 G (nI k) (nI l) f (nI n) w (nI c) (nI 0) = some (.inl (nI 0, w, nI (c + 1), G)) := by
    unfold p_X7_read_B126
    have hm := Nat.mod_lt c (show 0 < 4 by decide)
    rw [if_pos (show nI 0 = 0 from rfl), pk_rem (by omega) (by decide) (by decide), if_neg (fun z => h3 ((nI_eq (by omega) (by decide)).mp z)), nI_add]
  rw [e] at h
  exact lp_s h
theorem wi_size {x : Int32} {n0 : Nat} (hn : n0 ≤ 40) (h : wi x (nI 0) (nI n0 - nI 4) = true) : ∃ F, x = nI F ∧ F + 4 ≤ n0 := by
  by_cases h4 : 4 ≤ n0
  · rw [pk_sub h4] at h
    obtain ⟨F, -, hF, rfl⟩ := wi_in (by decide) (by omega) h
    exact ⟨F, rfl, by omega⟩
  · exfalso
    unfold wi at h
    simp only [Bool.and_eq_true, decide_eq_true_eq] at h
    have hle := Int32.le_trans h.1 h.2
    have hlt : nI n0 - nI 4 < 0 := pk_sneg (by decide) (by omega)
    exact absurd hlt (Int32.not_lt.mpr hle)
theorem wi_size_of {F n0 : Nat} (hn : n0 ≤ 40) (h : F + 4 ≤ n0) : wi (nI F) (nI 0) (nI n0 - nI 4) = true := by
  rw [pk_sub (by omega), wi_nI (by omega) (by decide) (by omega), decide_eq_true (Nat.zero_le F), decide_eq_true (by omega)]
  rfl
theorem read_core {s : Mem} {k l n n0 : Nat} {f : Int32} (hk4 : k < 4) (hl : l < 3) (hn : n ≤ 10) (hn0 : n0 ≤ 40) (q1 : s 0 0 = nI 0) (q2 : s 0 1 = nI l) (q3 : s 0 2 = nI n0) (q4 : g 9 k = nI l) (q5 : g 10 k = nI n0) (q6 : ∀ t, t < 40 → s 1 t = g 11 (40 * k + t)) :
    ∀ r i, i + r = n → (i = 0 ∨ ∃ F, f = nI F ∧ F + 4 * i ≤ n0) → ∀ B ft G, enc ft B → okF B → B 0 0 = A 0 0 → MS G 0 B → KR g G → ∃ x y, lp (rdL x0 x1 s (nI l) f (nI n)) (nI 0, nI i, nI i, ft) = some x ∧ lp (p_X7_read_L56 (nI k) (nI l) f (nI n)) (nI 0, nI i, nI (4 * i), G) = some y ∧ RQ g A x0 x1 x y
  | 0, i, hi, hF, B, ft, G, h1, h2, h3, h4, h5 => by
    have : i = n := by omega
    subst this
    refine ⟨.inl (nI 0, nI i, ft), .inl (nI 0, nI i, G), lp_r ?_, lp_r ?_, .inl ⟨_, _, B, ft, G, rfl, rfl, h1, h2, h3, h4, h5.1⟩⟩
    · unfold rdL
      dsimp only
      rw [if_pos (Int32.le_refl _)]
    · unfold p_X7_read_L56
      dsimp only
      rw [pk_mul, if_pos (Int32.le_refl _)]
  | r + 1, i, hi, hF, B, ft, G, h1, h2, h3, h4, h5 => by
    have g9 : G 9 k = nI l := by rw [h5.1.2.2 9 (by decide) (by decide)]; exact q4
    have g10 : G 10 k = nI n0 := by rw [h5.1.2.2 10 (by decide) (by decide)]; exact q5
    have g11 : G 11 = g 11 := h5.1.2.2 11 (by decide) (by decide)
    have hlt : i < n := by omega
    by_cases hOK : ∃ F, f = nI F ∧ F + 4 * i + 4 ≤ n0
    · obtain ⟨F, rfl, hF4⟩ := hOK
      have on : ∀ c, 4 * i ≤ c → c < 4 * i + 4 → p_X7_in ((nI F).toInt64 + (nI c).toInt64) (lN 0) (((G 10 k) - nI 1).toInt64) = some (bI true) := fun c c1 c2 => by rw [g10, cellIn_F (by omega) (by omega) (by omega), decide_eq_true (by omega)]
      obtain ⟨f', t1, t2, t3, -⟩ := tryTrade_eq h1 h2 (g 11 (40 * k + F + 4 * i)) (g 11 (40 * k + F + 4 * i + 1)) (g 11 (40 * k + F + 4 * i + 2)) (g 11 (40 * k + F + 4 * i + 3))
      obtain ⟨rr, G', u1, u2, u3, u4⟩ := buys_eq h4 h2 (g 11 (40 * k + F + 4 * i)) (g 11 (40 * k + F + 4 * i + 1)) (g 11 (40 * k + F + 4 * i + 2)) (g 11 (40 * k + F + 4 * i + 3))
      have tO : p_X2_tradeOn s ft (nI (F + 4 * i)) = some (bI (canI B (g 11 (40 * k + F + 4 * i)) (g 11 (40 * k + F + 4 * i + 1)) (g 11 (40 * k + F + 4 * i + 2)) (g 11 (40 * k + F + 4 * i + 3))), f') := by
        unfold p_X2_tradeOn
        rw [nI_add, nI_add, nI_add, gd_t (inb_nI (by omega) (by decide)), gd_t (inb_nI (by omega) (by decide)), gd_t (inb_nI (by omega) (by decide)), gd_t (inb_nI (by omega) (by decide)), nI_clamp (by omega), nI_clamp (by omega), nI_clamp (by omega), nI_clamp (by omega), q6 _ (by omega), q6 _ (by omega), q6 _ (by omega), q6 _ (by omega), show 40 * k + (F + 4 * i) = 40 * k + F + 4 * i by omega, show 40 * k + (F + 4 * i + 1) = 40 * k + F + 4 * i + 1 by omega, show 40 * k + (F + 4 * i + 2) = 40 * k + F + 4 * i + 2 by omega, show 40 * k + (F + 4 * i + 3) = 40 * k + F + 4 * i + 3 by omega, t1]
        rfl
      have cS : rdL x0 x1 s (nI l) (nI F) (nI n) (nI 0, nI i, nI i, ft) = if canI B (g 11 (40 * k + F + 4 * i)) (g 11 (40 * k + F + 4 * i + 1)) (g 11 (40 * k + F + 4 * i + 2)) (g 11 (40 * k + F + 4 * i + 3)) = false then some (.inr (.inr (-20 - nI i, x0, x1, f'))) else some (.inl (nI 0, nI (i + 1), nI (i + 1), f')) := by
        unfold rdL p_X2_faultOfTrade
        dsimp only
        rw [if_neg (nI_ge hlt (by omega)), if_pos (show nI 0 = 0 from rfl), q1, if_pos (show nI 0 = 0 from rfl), q2, if_pos rfl, pk_mul, nI_add, q3, isWithin_eq, wi_size_of hn0 hF4]
        simp only [Option.bind_some, bI_0]
        rw [ite_tf]
        simp only [Option.bind_some]
        rw [if_pos (show nI 0 = 0 from rfl), tO]
        simp only [Option.bind_some, bI_0, nI_add]
      have mS : lp (p_X7_read_L56 (nI k) (nI l) (nI F) (nI n)) (nI 0, nI i, nI (4 * i), G) = lp (p_X7_read_L56 (nI k) (nI l) (nI F) (nI n)) (nI 0, nI i, nI (4 * i + 3), G) := by
        rw [cell_on hk4 (by omega) hn (by omega) g9 hl (on _ (by omega) (by omega)), cell_on hk4 (by omega) hn (by omega) g9 hl (on _ (by omega) (by omega)), cell_on hk4 (by omega) hn (by omega) g9 hl (on _ (by omega) (by omega))]
      have m3 := cell_step (w := nI i) hk4 (show 4 * i + 3 < 4 * n by omega) hn g9 hl (on _ (by omega) (by omega))
      rw [if_pos rfl] at m3
      have mB : p_X7_read_B126 G (nI k) (nI l) (nI F) (nI n) (nI i) (nI (4 * i + 3)) (nI 0) = if 0 ≤ rr then some (.inl (nI 0, nI (i + 1), nI (4 * (i + 1)), G')) else (Option.bind (p_X7_copies G' (nI 180) (nI 0)) fun f_198 => some (.inr (.inr (-20 - nI i, f_198)))) := by
        unfold p_X7_read_B126
        rw [if_pos (show nI 0 = 0 from rfl), pk_rem (by omega) (by decide) (by decide), show (4 * i + 3) % 4 = 3 by omega, if_pos rfl, pk_mul, nI_add, nI_add, pk_sub (by omega), pk_sub (by omega), pk_sub (by omega), gd_t (inb_nI (by omega) (by decide)), gd_t (inb_nI (by omega) (by decide)), gd_t (inb_nI (by omega) (by decide)), gd_t (inb_nI (by omega) (by decide)), nI_clamp (by omega), nI_clamp (by omega), nI_clamp (by omega), nI_clamp (by omega), g11, show 40 * k + F + (4 * i + 3) - 3 = 40 * k + F + 4 * i by omega, show 40 * k + F + (4 * i + 3) - 2 = 40 * k + F + 4 * i + 1 by omega, show 40 * k + F + (4 * i + 3) - 1 = 40 * k + F + 4 * i + 2 by omega, show 40 * k + F + (4 * i + 3) = 40 * k + F + 4 * i + 3 by omega, u1]
        simp only [Option.bind_some, nI_add]
        rw [show 4 * i + 3 + 1 = 4 * (i + 1) by omega]
      rw [mS]
      cases hcan : canI B (g 11 (40 * k + F + 4 * i)) (g 11 (40 * k + F + 4 * i + 1)) (g 11 (40 * k + F + 4 * i + 2)) (g 11 (40 * k + F + 4 * i + 3)) with
      | false =>
        rw [hcan] at u4 cS
        rw [ite_ff] at cS
        rw [if_neg (fun z => by have := u4.mp z; cases this)] at mB
        obtain ⟨G2, v1, v2, v3⟩ := copies_eq (g := G') (a := 180) (b := 0) (by decide) (by decide) (.inr (by decide))
        rw [v1] at mB
        have k2 := KR_Fr h5 u3
        refine ⟨_, _, lp_r cS, lp_r (m3.trans mB), .inr ⟨_, _, _, rfl, rfl, Keep0_tr k2.1 (Fr_Keep0 v2 (.inl rfl)), fun j hj => ?_⟩⟩
        have := v3 j hj
        rw [Nat.zero_add] at this
        rw [this]
        exact k2.2 j hj
      | true =>
        rw [hcan] at u4 cS
        rw [ite_tf] at cS
        rw [if_pos (u4.mpr rfl)] at mB
        rw [lp_s cS, lp_s (m3.trans mB)]
        exact read_core hk4 hl hn hn0 q1 q2 q3 q4 q5 q6 r (i + 1) (by omega) (.inr ⟨F, rfl, by omega⟩) _ f' G' t2 t3 (by rw [tryT_no (by decide) (by decide)]; exact h3) u2 (KR_Fr h5 u3)
    · have cS : rdL x0 x1 s (nI l) f (nI n) (nI 0, nI i, nI i, ft) = some (.inl (nI 2, nI i, nI (i + 1), ft)) := by
        have hw : wi (f + nI 4 * nI i) (nI 0) (nI n0 - nI 4) = false := by
          cases hq : wi (f + nI 4 * nI i) (nI 0) (nI n0 - nI 4) with
          | false => rfl
          | true =>
            exfalso
            obtain ⟨F', e, hF'⟩ := wi_size hn0 hq
            rcases hF with rfl | ⟨F, rfl, hF⟩
            · rw [pk_mul, Nat.mul_zero, add_0] at e
              exact hOK ⟨F', e, by omega⟩
            · rw [pk_mul, nI_add] at e
              have := (nI_eq (by omega) (by omega)).mp e
              exact hOK ⟨F, rfl, by omega⟩
        unfold rdL p_X2_faultOfTrade
        dsimp only
        rw [if_neg (nI_ge hlt (by omega)), if_pos (show nI 0 = 0 from rfl), q1, if_pos (show nI 0 = 0 from rfl), q2, if_pos rfl, q3, isWithin_eq, hw]
        simp only [Option.bind_some, bI_0]
        rw [if_pos trivial]
        simp only [Option.bind_some]
        rw [if_neg (by decide), nI_add]
      have fin : ∃ y, lp (p_X7_read_L56 (nI k) (nI l) f (nI n)) (nI 0, nI i, nI (4 * i), G) = some y ∧ y = .inl (nI 2, nI i, G) := by
        refine ⟨_, ?_, rfl⟩
        have withF : ∀ F, f = nI F → F + 4 * i ≤ n0 → lp (p_X7_read_L56 (nI k) (nI l) f (nI n)) (nI 0, nI i, nI (4 * i), G) = some (.inl (nI 2, nI i, G)) := by
          intro F e hF
          subst e
          have hno : n0 < F + 4 * i + 4 := by
            rcases Nat.lt_or_ge n0 (F + 4 * i + 4) with h | h
            · exact h
            · exact absurd ⟨F, rfl, h⟩ hOK
          have off : ∀ c, n0 ≤ F + c → c < 4 * i + 4 → p_X7_in ((nI F).toInt64 + (nI c).toInt64) (lN 0) (((G 10 k) - nI 1).toInt64) = some (bI false) := fun c c1 c2 => by rw [g10, cellIn_F (by omega) (by omega) (by omega), decide_eq_false (by omega)]
          have on : ∀ c, F + c < n0 → c < 4 * i + 4 → p_X7_in ((nI F).toInt64 + (nI c).toInt64) (lN 0) (((G 10 k) - nI 1).toInt64) = some (bI true) := fun c c1 c2 => by rw [g10, cellIn_F (by omega) (by omega) (by omega), decide_eq_true (by omega)]
          rcases (show n0 = F + 4 * i ∨ n0 = F + 4 * i + 1 ∨ n0 = F + 4 * i + 2 ∨ n0 = F + 4 * i + 3 by omega) with e | e | e | e
          · exact cell_out hk4 (by omega) hn g9 hl (off _ (by omega) (by omega))
          · rw [cell_on hk4 (by omega) hn (by omega) g9 hl (on _ (by omega) (by omega))]
            exact cell_out hk4 (by omega) hn g9 hl (off _ (by omega) (by omega))
          · rw [cell_on hk4 (by omega) hn (by omega) g9 hl (on _ (by omega) (by omega)), cell_on hk4 (by omega) hn (by omega) g9 hl (on _ (by omega) (by omega))]
            exact cell_out hk4 (by omega) hn g9 hl (off _ (by omega) (by omega))
          · rw [cell_on hk4 (by omega) hn (by omega) g9 hl (on _ (by omega) (by omega)), cell_on hk4 (by omega) hn (by omega) g9 hl (on _ (by omega) (by omega)), cell_on hk4 (by omega) hn (by omega) g9 hl (on _ (by omega) (by omega))]
            exact cell_out hk4 (by omega) hn g9 hl (off _ (by omega) (by omega))
        rcases hF with rfl | ⟨F, e, hF⟩
        · cases hq : hasG n0 f with
          | true =>
            obtain ⟨F, hF, e⟩ := hasG_of (by omega) hq
            exact withF F e (by omega)
          | false => exact cell_out hk4 (by omega) hn g9 hl (by rw [g10, Nat.mul_zero, cellIn_0, hq])
        · exact withF F e hF
      obtain ⟨y, e1, e2⟩ := fin
      rw [lp_s cS, rd_c (by decide), e1, e2]
      exact ⟨_, _, rfl, rfl, .inl ⟨_, _, B, ft, G, rfl, rfl, h1, h2, h3, h4, h5.1⟩⟩
theorem rd_fault {s ft G : Mem} {B : Fk} {k l n : Nat} {f : Int32} {code : Nat} (hk4 : k < 4) (hn : n ≤ 10) (hc : code = 1 ∨ code = 3) (e1 : p_X2_faultOfTrade s (nI l) (f + nI 4 * nI 0) = some (nI code)) (e2 : (code = 1 ∧ G 9 k = -4) ∨ (code = 3 ∧ ¬ G 9 k = -4 ∧ ¬ G 9 k = nI l)) (h1 : enc ft B) (h2 : okF B) (h3 : B 0 0 = A 0 0) (h4 : MS G 0 B) (h5 : KR g G) : ∃ x y, lp (rdL x0 x1 s (nI l) f (nI n)) (nI 0, nI 0, nI 0, ft) = some x ∧ lp (p_X7_read_L56 (nI k) (nI l) f (nI n)) (nI 0, nI 0, nI 0, G) = some y ∧ RQ g A x0 x1 x y := by
  have i4 : inb (nI k) 4 = true := inb_nI hk4 (by decide)
  have hc0 : ¬ nI code = 0 := fun z => by have := (nI_z (by omega)).mp z; omega
  by_cases hn0 : n = 0
  · subst hn0
    refine ⟨.inl (nI 0, nI 0, ft), .inl (nI 0, nI 0, G), lp_r ?_, lp_r ?_, .inl ⟨_, _, B, ft, G, rfl, rfl, h1, h2, h3, h4, h5.1⟩⟩
    · unfold rdL
      dsimp only
      rw [if_pos (Int32.le_refl _)]
    · unfold p_X7_read_L56
      dsimp only
      rw [pk_mul, if_pos (Int32.le_refl _)]
  · have cS : rdL x0 x1 s (nI l) f (nI n) (nI 0, nI 0, nI 0, ft) = some (.inl (nI code, nI 0, nI 0 + nI 1, ft)) := by
      unfold rdL
      dsimp only
      rw [if_neg (nI_ge (show 0 < n by omega) (by omega)), if_pos (show nI 0 = 0 from rfl), e1]
      simp only [Option.bind_some]
      rw [if_neg hc0]
    have mS : p_X7_read_L56 (nI k) (nI l) f (nI n) (nI 0, nI 0, nI 0, G) = some (.inl (nI code, nI 0, nI 0 + nI 1, G)) := by
      unfold p_X7_read_L56
      dsimp only
      rw [pk_mul, if_neg (nI_ge (show 0 < 4 * n by omega) (by omega)), if_pos (show nI 0 = 0 from rfl), gd_t i4, nI_clamp (by omega)]
      rcases e2 with ⟨rfl, e⟩ | ⟨rfl, e, e'⟩
      · rw [if_pos e]; exact rd_B (by decide)
      · rw [if_neg e, gd_t i4, if_neg e']; exact rd_B (by decide)
    rw [lp_s cS, lp_s mS, rd_c hc0, rd_m hc0]
    exact ⟨_, _, rfl, rfl, .inl ⟨_, _, B, ft, G, rfl, rfl, h1, h2, h3, h4, h5.1⟩⟩
theorem read_any {s ft G : Mem} {k l n : Nat} {f : Int32} (hk4 : k < 4) (hl : l < 3) (hn : n ≤ 10) (hs : R_sheet s g k) (hk : okF A) (h1 : enc ft A) (h4 : MS G 0 A) (h5 : KR g G) : ∃ x y, lp (rdL x0 x1 s (nI l) f (nI n)) (nI 0, nI 0, nI 0, ft) = some x ∧ lp (p_X7_read_L56 (nI k) (nI l) f (nI n)) (nI 0, nI 0, nI 0, G) = some y ∧ RQ g A x0 x1 x y := by
  have g9 : G 9 k = g 9 k := by rw [h5.1.2.2 9 (by decide) (by decide)]
  rcases hs with ⟨q1, q2⟩ | ⟨l0, n0, q1, q2, q3, q4, q5, q6, q7, q8⟩
  · refine rd_fault (code := 1) (B := A) hk4 hn (.inl rfl) ?_ (.inl ⟨rfl, by rw [g9]; exact q2⟩) h1 hk rfl h4 h5
    unfold p_X2_faultOfTrade
    rw [q1, if_neg (by decide)]
  · by_cases hll : l0 = l
    · subst hll
      exact read_core hk4 q1 hn q2 q3 q4 q5 q6 q7 q8 n 0 (by omega) (.inl rfl) A ft G h1 hk rfl h4 h5
    · have hne : ¬ nI l0 = nI l := fun z => hll ((nI_eq (by omega) (by omega)).mp z)
      refine rd_fault (code := 3) (B := A) hk4 hn (.inr rfl) ?_ (.inr ⟨rfl, by rw [g9, q6]; exact nI_m (by omega) (by decide), by rw [g9, q6]; exact hne⟩) h1 hk rfl h4 h5
      unfold p_X2_faultOfTrade
      rw [q3, if_pos (show nI 0 = 0 from rfl), q4, if_neg hne]
theorem op_read (R : Rel x0 x1 x3 x4 x5 x6 x8 s0 s1 s2 s3 g) (x2 : Mem) (a b c d : Int32) : ∃ r x0' x1' x2' g', p_X6_read x0 x1 x2 s0 s1 s2 s3 a b c d = some (r, x0', x1', x2') ∧ p_X7_read g a b c d = some (r, g') ∧ Rel x0' x1' x3 x4 x5 x6 x8 s0 s1 s2 s3 g' := by
  have R0 := R
  obtain ⟨A, h, hk, hm, hR⟩ := R
  have hR0 := hR
  obtain ⟨-, -, -, -, ⟨r0, r1, r2, r3⟩, -⟩ := hR
  unfold p_X6_read p_X7_read
  rw [isSheet_eq, isLane_eq, isWithin_eq, in_c0 3 (by decide), in_c0 2 (by decide), in_c0 10 (by decide)]
  simp only [Option.bind_some, bI_0]
  cases hO : wi a (nI 0) (nI 3) with
  | false => exact ⟨-1, x0, x1, x2, g, rfl, rfl, R0⟩
  | true =>
    obtain ⟨k, hk4, rfl⟩ := wi_of (by decide) hO
    rw [ite_tf, ite_tf]
    cases hW : wi b (nI 0) (nI 2) with
    | false => exact ⟨-1, x0, x1, x2, g, rfl, rfl, R0⟩
    | true =>
      obtain ⟨l, hl, rfl⟩ := wi_of (by decide) hW
      rw [ite_tf, ite_tf]
      cases hN : wi d (nI 0) (nI 10) with
      | false => exact ⟨-1, x0, x1, x2, g, rfl, rfl, R0⟩
      | true =>
        obtain ⟨n, hn, rfl⟩ := wi_of (by decide) hN
        obtain ⟨f1, c1, c2⟩ := copyFrom_eq (f := x2) h hk
        obtain ⟨g1, t1, t2, t3⟩ := copies_eq (g := g) (a := 0) (b := 180) (by decide) (by decide) (.inl (by decide))
        have kr : KR g g1 := ⟨Fr_Keep0 t2 (.inr (by decide)), fun j hj => by rw [t3 j hj, Nat.zero_add]⟩
        have m1 : MS g1 0 A := MS_Fr hk hm t2 (.inl (by decide))
        rw [ite_tf, ite_tf, c1, t1]
        simp only [Option.bind_some]
        have fin : ∀ x y, RQ g A x0 x1 x y → ∃ r x0' x1' x2' g', (Sum.elim (fun (z : Int32 × Int32 × Mem) => p_X6_read_B119 x0 x1 z.2.2 s0 s1 s2 s3 z.1 z.2.1) some x : Option (Int32 × Mem × Mem × Mem)) = some (r, x0', x1', x2') ∧ (Sum.elim (fun (z : Int32 × Int32 × Mem) => p_X7_read_B216 z.2.2 z.1 z.2.1) some y : Option (Int32 × Mem)) = some (r, g') ∧ Rel x0' x1' x3 x4 x5 x6 x8 s0 s1 s2 s3 g' := by
          intro x y hq
          rcases hq with ⟨code, w, B, ft, G, rfl, rfl, z1, z2, z3, z4, z5⟩ | ⟨r, ft, G, rfl, rfl, z⟩
          · obtain ⟨f2, d1, d2⟩ := copyFrom_eq (f := x1) z1 z2
            refine ⟨w, mset 0 1 code x0, f2, ft, mset 0 22 code G, ?_, rfl, B, d2, z2, MS_as z4 (mset_no (by decide)) (mset_ne (by decide)), ?_⟩
            · show p_X6_read_B119 x0 x1 ft s0 s1 s2 s3 code w = _
              unfold p_X6_read_B119
              rw [d1]
              rfl
            · rw [z3]
              obtain ⟨p1, p2, ⟨k0, k1, p3, p4, p5, p6, p7⟩, p8, ⟨p9, p10, p11, p12⟩, p13, p14⟩ := Rest_Keep0 hR0 z5
              refine ⟨R_tape_as p1 (mset_no (by decide)) (mset_ne (by decide)), by rw [mset_no (by decide)]; exact p2, ⟨k0, k1, by rw [mset_no (by decide)]; exact p3, by rw [mset_ne (by decide)]; exact p4, by rw [mset_ne (by decide)]; exact p5, R_img_as p6 (mset_no (by decide)) (mset_ne (by decide)), R_img_as p7 (mset_no (by decide)) (mset_ne (by decide))⟩, R_seen_as p8 (mset_no (by decide)) (mset_ne (by decide)), ⟨R_sheet_as p9 (mset_ne (by decide)) (mset_ne (by decide)) (mset_ne (by decide)), R_sheet_as p10 (mset_ne (by decide)) (mset_ne (by decide)) (mset_ne (by decide)), R_sheet_as p11 (mset_ne (by decide)) (mset_ne (by decide)) (mset_ne (by decide)), R_sheet_as p12 (mset_ne (by decide)) (mset_ne (by decide)) (mset_ne (by decide))⟩, by rw [mset_s, mset_s], ?_⟩
              unfold R_const
              rw [mset_ne (by decide), mset_ne (by decide)]
              exact p14
          · exact ⟨r, x0, x1, ft, G, rfl, rfl, Rel_Keep R0 z⟩
        rcases (show k = 0 ∨ k = 1 ∨ k = 2 ∨ k = 3 by omega) with rfl | rfl | rfl | rfl
        · obtain ⟨x, y, e1, e2, e3⟩ := read_any (x0 := x0) (x1 := x1) (f := c) (n := n) (l := l) (k := 0) (by decide) (by omega) (by omega) r0 hk c2 m1 kr
          rw [if_pos rfl, show p_X6_read_L55_0 x0 x1 s0 s1 s2 s3 (nI l) c (nI n) = rdL x0 x1 s0 (nI l) c (nI n) from rfl, e1, e2]
          exact fin x y e3
        · obtain ⟨x, y, e1, e2, e3⟩ := read_any (x0 := x0) (x1 := x1) (f := c) (n := n) (l := l) (k := 1) (by decide) (by omega) (by omega) r1 hk c2 m1 kr
          rw [if_neg (by decide), if_pos rfl, show p_X6_read_L55_1 x0 x1 s0 s1 s2 s3 (nI l) c (nI n) = rdL x0 x1 s1 (nI l) c (nI n) from rfl, e1, e2]
          exact fin x y e3
        · obtain ⟨x, y, e1, e2, e3⟩ := read_any (x0 := x0) (x1 := x1) (f := c) (n := n) (l := l) (k := 2) (by decide) (by omega) (by omega) r2 hk c2 m1 kr
          rw [if_neg (by decide), if_neg (by decide), if_pos rfl, show p_X6_read_L55_2 x0 x1 s0 s1 s2 s3 (nI l) c (nI n) = rdL x0 x1 s2 (nI l) c (nI n) from rfl, e1, e2]
          exact fin x y e3
        · obtain ⟨x, y, e1, e2, e3⟩ := read_any (x0 := x0) (x1 := x1) (f := c) (n := n) (l := l) (k := 3) (by decide) (by omega) (by omega) r3 hk c2 m1 kr
          rw [if_neg (by decide), if_neg (by decide), if_neg (by decide), if_pos rfl, show p_X6_read_L55_3 x0 x1 s0 s1 s2 s3 (nI l) c (nI n) = rdL x0 x1 s3 (nI l) c (nI n) from rfl, e1, e2]
          exact fin x y e3
end OPSF
