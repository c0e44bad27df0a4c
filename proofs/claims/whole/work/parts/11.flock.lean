noncomputable def p_J7_fill_53178_L5 (n0 : Nat) (x1 : Int32) (x3 : Int32) (z : Int32 × (Nat → Int32)) : Option ((Int32 × (Nat → Int32)) ⊕ ((Nat → Int32))) :=
  match z with
  | (x2, g0_) =>
    if x3 ≤ x2 then
      (some (Sum.inr g0_))
    else
      (gd (inb x2 n0) <|
       bnd (upd (g0_) x2.toNatClampNeg x1) <| fun g13 =>
       some (Sum.inl ((x2 + nI 1), g13)))
noncomputable def p_J7_fill_53178 (n0 : Nat) (g0 : Nat → Int32) (x1 : Int32) : Option ((Nat → Int32)) :=
  Option.bind (lp (p_J7_fill_53178_L5 n0 x1 (nI n0)) ((nI 0), g0)) <| fun g0_5 =>
  some g0_5
set_option maxHeartbeats 4000000 in
set_option maxRecDepth 100000 in
theorem c_J7_fill_53178 (l : Launch) (G : Gt) (aq0 : Nat) (n0 : Nat) (g0 : Nat → Int32) (x1 : Int32) (g0z : Nat → Int32) (hf : p_J7_fill_53178 n0 g0 x1 = some g0z) (sz : Nat) : Met l yJ7_fill_53178 wsJ7_fill_53178 ({ frames := 1, cells := 0, slots := 0, locals := 12 }) (Pc0 G sz [.ref aq0, .int x1] (wRow G aq0 n0 g0)) (Qv0 G (va_A (wRow G aq0 n0 g0) sz) (wRow G aq0 n0 g0z)) 0 0 (va_A (wRow G aq0 n0 g0) sz) := by
  refine metP (Qf := fun A => Qv0 G A (wRow G aq0 n0 g0z)) cJ7_fill_53178 4 (none) (by decide) rfl (Nat.le_of_ble_eq_true rfl) ?_
  intro p e s m below meth c A ls hC hr hlocks hin hE hA hsz hP hD hS hl
  generalize hargs : ([.ref aq0, .int x1] : List Value).toArray = args at hC ⊢
  obtain ⟨hx, hb, hml, hown, hts⟩ := id hC
  have hT : va_K G.1 vwCl (tyL G) s := hE.1
  have hRet : ∀ (g09 : Nat → Int32) (H : Heap) (locs : List Loc) (ls : Array Slot) (pc : Nat) (hK9 : g09 = g0z) (hdg : decode cJ7_fill_53178 pc = .ok (.return_, 1)), va_P G.1 vwCl (wRow G aq0 n0 g09) H → va_D A (wRow G aq0 n0 g09) → va_S A s.heap H locs → W p l e ({ frames := 1, cells := 0, slots := 0, locals := 12 }) s m args below meth c H locs 0 0 (MQ below (Qv0 G A (wRow G aq0 n0 g0z)) args s 0 0 A) (F0 m pc ls []) := by
    intro g09 H locs ls pc hK9 hdg hP hD hS
    cases hK9
    exact W.vret hx hb hr (fun t ht hW => ⟨⟨(), rfl, trivial, by rw [ht]; exact hP, hD⟩, hS.F ht⟩) hS.2.2 hdg hlocks
  generalize MQ below (Qv0 G A (wRow G aq0 n0 g0z)) args s 0 0 A = Q at hRet ⊢
  have hl : lv_has ls 4 [(0, .ref aq0), (1, .int x1)] := hl
  have hK0 : g0z = g0z := rfl
  obtain ⟨res, hres, hK⟩ : ∃ res, p_J7_fill_53178 n0 g0 x1 = some res ∧ res = g0z := ⟨_, hf, rfl⟩
  clear hf
  have hf := hres
  clear hres
  unfold p_J7_fill_53178 at hf
  refine lv_iconst (v := (nI 0)) hx hb dJ7_fill_53178_0 (ic_0) ?_
  refine lv_istore_n (lv' := [(2, .int (nI 0)), (0, .ref aq0), (1, .int x1)]) hx hb dJ7_fill_53178_1 rfl hl (by decide) rfl (fun ls hl => ?_)
  refine lv_aload_n hx hb dJ7_fill_53178_2 rfl (lv_at hl 1 rfl) ?_
  refine va_alen (v := (nI n0)) hx hb hT hP 0 0 rfl rfl rfl dJ7_fill_53178_3 ?_
  refine lv_istore_n (lv' := [(3, .int (nI n0)), (2, .int (nI 0)), (0, .ref aq0), (1, .int x1)]) hx hb dJ7_fill_53178_4 rfl hl (by decide) rfl (fun ls hl => ?_)
  obtain ⟨g0_5, hlp, hf⟩ := bd_e hf
  refine lp_W1 (p_J7_fill_53178_L5 n0 x1 (nI n0)) (fun z => match z with | (x2, g0_) => ∀ (H : Heap) (locs : List Loc) (ls : Array Slot), va_P G.1 vwCl (wRow G aq0 n0 g0_) H → va_D A (wRow G aq0 n0 g0_) → va_S A s.heap H locs → lv_has ls 4 [(0, .ref aq0), (1, .int x1), (2, .int x2), (3, .int (nI n0))] → W p l e ({ frames := 1, cells := 0, slots := 0, locals := 12 }) s m args below meth c H locs 0 0 Q (F0 m 5 ls [])) (fun (g0_5 : (Nat → Int32)) => ∀ (H : Heap) (locs : List Loc) (ls : Array Slot), va_P G.1 vwCl (wRow G aq0 n0 g0_5) H → va_D A (wRow G aq0 n0 g0_5) → va_S A s.heap H locs → lv_has ls 4 [] → W p l e ({ frames := 1, cells := 0, slots := 0, locals := 12 }) s m args below meth c H locs 0 0 Q (F0 m 20 ls [])) ?_ hlp ?_ _ _ _ hP hD hS (lv_sub hl [2, 3, 1, 0] rfl)
  · clear hlp hf hK hP hD hS hl
    generalize (nI n0) = x3
    intro K5 hW5 hX5 
    rintro ⟨x2, g0_⟩ res hf hK H locs ls hP hD hS hl
    unfold p_J7_fill_53178_L5 at hf
    dsimp only at hf
    refine lv_iload_n hx hb dJ7_fill_53178_5 rfl (lv_at hl 2 rfl) ?_
    refine lv_iload_n hx hb dJ7_fill_53178_6 rfl (lv_at hl 3 rfl) ?_
    refine lv_icmp_ge (tgt := 20) hx hb dJ7_fill_53178_7 (by decide) (fun hc => ?_) (fun hc => ?_)
    · have hf := if_t hf hc
      have hK9 := K_of hf hK
      have hK9 := hX5 _ hK9
      exact hK9 _ _ _ hP hD hS (lv_sub hl [] rfl)
    · have hf := if_f hf hc
      refine lv_aload_n hx hb dJ7_fill_53178_10 rfl (lv_at hl 0 rfl) ?_
      refine lv_iload_n hx hb dJ7_fill_53178_11 rfl (lv_at hl 2 rfl) ?_
      refine lv_iload_n hx hb dJ7_fill_53178_12 rfl (lv_at hl 1 rfl) ?_
      obtain ⟨hg, hf⟩ := gd_e hf
      obtain ⟨g13, eg13, hf⟩ := bnd_e hf
      refine va_iast (f := g0_) hx hb hT hP hD hS 0 0 rfl rfl (inb_e hg) dJ7_fill_53178_13 (fun H locs hP hD hS => ?_)
      rw [← eg13] at hP hD
      have hP : va_P G.1 vwCl (wRow G aq0 n0 g13) H := hP
      have hD : va_D A (wRow G aq0 n0 g13) := hD
      refine lv_iinc (v := (x2 + nI 1)) (lv' := [(2, .int (x2 + nI 1)), (0, .ref aq0), (1, .int x1), (3, .int x3)]) hx hb dJ7_fill_53178_14 hl (k := 2) rfl (ii_x 1 _) (by decide) rfl (fun ls hl => ?_)
      refine lv_goto (tgt := 5) hx hb dJ7_fill_53178_17 (by decide) ?_
      have hK9 := K_of hf hK
      have hK9 := hW5 _ hK9
      exact hK9 _ _ _ hP hD hS (lv_sub hl [1, 2, 0, 3] rfl)
  · try dsimp only at hf
    show ∀ (H : Heap) (locs : List Loc) (ls : Array Slot), va_P G.1 vwCl (wRow G aq0 n0 g0_5) H → va_D A (wRow G aq0 n0 g0_5) → va_S A s.heap H locs → lv_has ls 4 [] → W p l e ({ frames := 1, cells := 0, slots := 0, locals := 12 }) s m args below meth c H locs 0 0 Q (F0 m 20 ls [])
    intro H locs ls hP hD hS hl
    have hK9 := K0_of hf hK
    exact hRet g0_5 _ _ _ _ hK9 dJ7_fill_53178_20 hP hD hS
noncomputable def p_X0_clear (f : Mem) : Option (Mem) :=
  Option.bind (p_J7_fill_53178 15 (f 4) (nI 0)) <| fun g_20 =>
  Option.bind (p_J7_fill_53178 5 (f 5) (nI 20)) <| fun g_29 =>
  Option.bind (p_J7_fill_53178 5 (f 6) (nI 0)) <| fun g_37 =>
  some (mrow 6 (g_37) (mrow 5 (g_29) (mrow 4 (g_20) (mset 0 2 (nI 0) (mset 0 1 (nI 0) (mset 0 0 (nI 0) f))))))
set_option maxHeartbeats 4000000 in
set_option maxRecDepth 100000 in
theorem c_X0_clear (l : Launch) (G : Gt) (ad : Nat → Nat) (f : Mem) (fz : Mem) (hf : p_X0_clear f = some fz) (sz : Nat) : Met l yX0_clear wsX0_clear ({ frames := 2, cells := 0, slots := 0, locals := 35 }) (Pc0 G sz [.ref (ad 0)] (wX0 G ad f)) (Qv0 G (va_A (wX0 G ad f) sz) (wX0 G ad fz)) 0 0 (va_A (wX0 G ad f) sz) := by
  refine metP (Qf := fun A => Qv0 G A (wX0 G ad fz)) cX0_clear 1 (none) (by decide) rfl (Nat.le_of_ble_eq_true rfl) ?_
  intro p e s m below meth c A ls hC hr hlocks hin hE hA hsz hP hD hS hl
  generalize hargs : ([.ref (ad 0)] : List Value).toArray = args at hC ⊢
  obtain ⟨hx, hb, hml, hown, hts⟩ := id hC
  have hT : va_K G.1 vwCl (tyL G) s := hE.1
  have hRet : ∀ (f9 : Mem) (H : Heap) (locs : List Loc) (ls : Array Slot) (pc : Nat) (hK9 : f9 = fz) (hdg : decode cX0_clear pc = .ok (.return_, 1)), va_P G.1 vwCl (wX0 G ad f9) H → va_D A (wX0 G ad f9) → va_S A s.heap H locs → W p l e ({ frames := 2, cells := 0, slots := 0, locals := 35 }) s m args below meth c H locs 0 0 (MQ below (Qv0 G A (wX0 G ad fz)) args s 0 0 A) (F0 m pc ls []) := by
    intro f9 H locs ls pc hK9 hdg hP hD hS
    cases hK9
    exact W.vret hx hb hr (fun t ht hW => ⟨⟨(), rfl, trivial, by rw [ht]; exact hP, hD⟩, hS.F ht⟩) hS.2.2 hdg hlocks
  generalize MQ below (Qv0 G A (wX0 G ad fz)) args s 0 0 A = Q at hRet ⊢
  have lk9 := hts (.fieldLink RX0 9 "FeatherShares$Flock" "geese" "I") (by decide +kernel)
  have inX0 : ∀ w ∈ u_ws RX0 TX0 13, w ∈ wsX0_clear := by decide +kernel
  have lk15 := hts (.fieldLink RX0 15 "FeatherShares$Flock" "week" "I") (by decide +kernel)
  have lk18 := hts (.fieldLink RX0 18 "FeatherShares$Flock" "trades" "I") (by decide +kernel)
  have lk31 := hts (.fieldLink RX0 31 "FeatherShares$Flock" "feathers" "[I") (by decide +kernel)
  have lk34 := hts (.fieldLink RX0 34 "FeatherShares$Flock" "money" "[I") (by decide +kernel)
  have lk37 := hts (.fieldLink RX0 37 "FeatherShares$Flock" "eggsHad" "[I") (by decide +kernel)
  have hl : lv_has ls 1 [(0, .ref (ad 0))] := hl
  have hK0 : fz = fz := rfl
  obtain ⟨res, hres, hK⟩ : ∃ res, p_X0_clear f = some res ∧ res = fz := ⟨_, hf, rfl⟩
  clear hf
  have hf := hres
  clear hres
  unfold p_X0_clear at hf
  refine lv_aload_n hx hb dX0_clear_0 rfl (lv_at hl 0 rfl) ?_
  refine lv_iconst (v := (nI 0)) hx hb dX0_clear_1 (ic_0) ?_
  refine va_put (C := RX0) (T := TX0) (N := 13) (ci := 0) (ty := .int) (v := .int (nI 0)) hx hb hts inX0 tyX0 tyX0_ok nmX0 hown hT hP hD hS 0 rfl rfl 0 (Nat.le_of_ble_eq_true rfl) lk9 (fun _ h => h) rfl (by decide +kernel) rfl rfl (Nat.le_of_ble_eq_true rfl) dX0_clear_2 (fun H locs hP hD hS => ?_)
  have hP : va_P G.1 vwCl (wX0 G ad (mset 0 0 (nI 0) f)) H := hP
  have hD : va_D A (wX0 G ad (mset 0 0 (nI 0) f)) := hD
  refine lv_aload_n hx hb dX0_clear_5 rfl (lv_at hl 0 rfl) ?_
  refine lv_iconst (v := (nI 0)) hx hb dX0_clear_6 (ic_0) ?_
  refine va_put (C := RX0) (T := TX0) (N := 13) (ci := 0) (ty := .int) (v := .int (nI 0)) hx hb hts inX0 tyX0 tyX0_ok nmX0 hown hT hP hD hS 0 rfl rfl 1 (Nat.le_of_ble_eq_true rfl) lk15 (fun _ h => h) rfl (by decide +kernel) rfl rfl (Nat.le_of_ble_eq_true rfl) dX0_clear_7 (fun H locs hP hD hS => ?_)
  have hP : va_P G.1 vwCl (wX0 G ad (mset 0 1 (nI 0) (mset 0 0 (nI 0) f))) H := hP
  have hD : va_D A (wX0 G ad (mset 0 1 (nI 0) (mset 0 0 (nI 0) f))) := hD
  refine lv_aload_n hx hb dX0_clear_10 rfl (lv_at hl 0 rfl) ?_
  refine lv_iconst (v := (nI 0)) hx hb dX0_clear_11 (ic_0) ?_
  refine va_put (C := RX0) (T := TX0) (N := 13) (ci := 0) (ty := .int) (v := .int (nI 0)) hx hb hts inX0 tyX0 tyX0_ok nmX0 hown hT hP hD hS 0 rfl rfl 2 (Nat.le_of_ble_eq_true rfl) lk18 (fun _ h => h) rfl (by decide +kernel) rfl rfl (Nat.le_of_ble_eq_true rfl) dX0_clear_12 (fun H locs hP hD hS => ?_)
  have hP : va_P G.1 vwCl (wX0 G ad (mset 0 2 (nI 0) (mset 0 1 (nI 0) (mset 0 0 (nI 0) f)))) H := hP
  have hD : va_D A (wX0 G ad (mset 0 2 (nI 0) (mset 0 1 (nI 0) (mset 0 0 (nI 0) f)))) := hD
  refine lv_aload_n hx hb dX0_clear_15 rfl (lv_at hl 0 rfl) ?_
  refine va_get (C := RX0) (T := TX0) (N := 13) (ci := 0) (v := .ref (ad 4)) hx hb hts inX0 hown hT hP 0 rfl rfl 6 (Nat.le_of_ble_eq_true rfl) lk31 (fun _ h => h) rfl dX0_clear_16 ?_
  refine lv_iconst (v := (nI 0)) hx hb dX0_clear_19 (ic_0) ?_
  obtain ⟨g_20, hc20, hf⟩ := bd_e hf
  refine cl_v_up (Wd := (wX0 G ad (mset 0 2 (nI 0) (mset 0 1 (nI 0) (mset 0 0 (nI 0) f))))) (Wc := (wRow G (ad 4) 15 (f 4))) (W' := (wRow G (ad 4) 15 g_20)) (W2 := (wX0 G ad (mrow 4 (g_20) (mset 0 2 (nI 0) (mset 0 1 (nI 0) (mset 0 0 (nI 0) f)))))) (Wr := ([0, 1, 2, 3, 5, 6, 7, 8, 9, 10] : List Nat).filterMap (fun i => (wX0 G ad (mset 0 2 (nI 0) (mset 0 1 (nI 0) (mset 0 0 (nI 0) f))))[i]?)) [4] [0, 1, 2, 3, 5, 6, 7, 8, 9, 10] rfl rfl rfl rfl rfl rfl (va_runS (As := [.ref (ad 4), .int (nI 0)]) (rest := []) hC (c_J7_fill_53178 l G (ad 4) 15 (f 4) (nI 0) g_20 hc20 _) (va_cwS 2 hts gX0_clear_J7_fill_53178 rfl rfl rfl (by decide +kernel) ⟨Nat.le_of_ble_eq_true rfl, Nat.le_of_ble_eq_true rfl⟩) ⟨Pc0_blind, fun U hU hW => Pc0_at (Wd := (wRow G (ad 4) 15 (f 4))) hE (hP.subm [4] rfl) (hD.sub [4] (by decide) rfl) hU hW⟩ rfl rfl hl.1 rfl (lv_room (Nat.le_of_ble_eq_true rfl)) dX0_clear_20 ⟨Nat.zero_le _, Nat.zero_le _⟩) hS hA hP hD (fun H locs hP hD hS => ?_)
  refine lv_aload_n hx hb dX0_clear_23 rfl (lv_at hl 0 rfl) ?_
  refine va_get (C := RX0) (T := TX0) (N := 13) (ci := 0) (v := .ref (ad 5)) hx hb hts inX0 hown hT hP 0 rfl rfl 7 (Nat.le_of_ble_eq_true rfl) lk34 (fun _ h => h) rfl dX0_clear_24 ?_
  refine lv_bipush (v := (nI 20)) hx hb dX0_clear_27 (bi_20) ?_
  obtain ⟨g_29, hc29, hf⟩ := bd_e hf
  refine cl_v_up (Wd := (wX0 G ad (mrow 4 (g_20) (mset 0 2 (nI 0) (mset 0 1 (nI 0) (mset 0 0 (nI 0) f)))))) (Wc := (wRow G (ad 5) 5 (f 5))) (W' := (wRow G (ad 5) 5 g_29)) (W2 := (wX0 G ad (mrow 5 (g_29) (mrow 4 (g_20) (mset 0 2 (nI 0) (mset 0 1 (nI 0) (mset 0 0 (nI 0) f))))))) (Wr := ([0, 1, 2, 3, 4, 6, 7, 8, 9, 10] : List Nat).filterMap (fun i => (wX0 G ad (mrow 4 (g_20) (mset 0 2 (nI 0) (mset 0 1 (nI 0) (mset 0 0 (nI 0) f)))))[i]?)) [5] [0, 1, 2, 3, 4, 6, 7, 8, 9, 10] rfl rfl rfl rfl rfl rfl (va_runS (As := [.ref (ad 5), .int (nI 20)]) (rest := []) hC (c_J7_fill_53178 l G (ad 5) 5 (f 5) (nI 20) g_29 hc29 _) (va_cwS 2 hts gX0_clear_J7_fill_53178 rfl rfl rfl (by decide +kernel) ⟨Nat.le_of_ble_eq_true rfl, Nat.le_of_ble_eq_true rfl⟩) ⟨Pc0_blind, fun U hU hW => Pc0_at (Wd := (wRow G (ad 5) 5 (f 5))) hE (hP.subm [5] rfl) (hD.sub [5] (by decide) rfl) hU hW⟩ rfl rfl hl.1 rfl (lv_room (Nat.le_of_ble_eq_true rfl)) dX0_clear_29 ⟨Nat.zero_le _, Nat.zero_le _⟩) hS hA hP hD (fun H locs hP hD hS => ?_)
  refine lv_aload_n hx hb dX0_clear_32 rfl (lv_at hl 0 rfl) ?_
  refine va_get (C := RX0) (T := TX0) (N := 13) (ci := 0) (v := .ref (ad 6)) hx hb hts inX0 hown hT hP 0 rfl rfl 8 (Nat.le_of_ble_eq_true rfl) lk37 (fun _ h => h) rfl dX0_clear_33 ?_
  refine lv_iconst (v := (nI 0)) hx hb dX0_clear_36 (ic_0) ?_
  obtain ⟨g_37, hc37, hf⟩ := bd_e hf
  refine cl_v_up (Wd := (wX0 G ad (mrow 5 (g_29) (mrow 4 (g_20) (mset 0 2 (nI 0) (mset 0 1 (nI 0) (mset 0 0 (nI 0) f))))))) (Wc := (wRow G (ad 6) 5 (f 6))) (W' := (wRow G (ad 6) 5 g_37)) (W2 := (wX0 G ad (mrow 6 (g_37) (mrow 5 (g_29) (mrow 4 (g_20) (mset 0 2 (nI 0) (mset 0 1 (nI 0) (mset 0 0 (nI 0) f)))))))) (Wr := ([0, 1, 2, 3, 4, 5, 7, 8, 9, 10] : List Nat).filterMap (fun i => (wX0 G ad (mrow 5 (g_29) (mrow 4 (g_20) (mset 0 2 (nI 0) (mset 0 1 (nI 0) (mset 0 0 (nI 0) f))))))[i]?)) [6] [0, 1, 2, 3, 4, 5, 7, 8, 9, 10] rfl rfl rfl rfl rfl rfl (va_runS (As := [.ref (ad 6), .int (nI 0)]) (rest := []) hC (c_J7_fill_53178 l G (ad 6) 5 (f 6) (nI 0) g_37 hc37 _) (va_cwS 2 hts gX0_clear_J7_fill_53178 rfl rfl rfl (by decide +kernel) ⟨Nat.le_of_ble_eq_true rfl, Nat.le_of_ble_eq_true rfl⟩) ⟨Pc0_blind, fun U hU hW => Pc0_at (Wd := (wRow G (ad 6) 5 (f 6))) hE (hP.subm [6] rfl) (hD.sub [6] (by decide) rfl) hU hW⟩ rfl rfl hl.1 rfl (lv_room (Nat.le_of_ble_eq_true rfl)) dX0_clear_37 ⟨Nat.zero_le _, Nat.zero_le _⟩) hS hA hP hD (fun H locs hP hD hS => ?_)
  have hK9 := K0_of hf hK
  exact hRet (mrow 6 (g_37) (mrow 5 (g_29) (mrow 4 (g_20) (mset 0 2 (nI 0) (mset 0 1 (nI 0) (mset 0 0 (nI 0) f)))))) _ _ _ _ hK9 dX0_clear_40 hP hD hS
noncomputable def p_X0_copyFrom (f : Mem) (fo1 : Mem) : Option (Mem) :=
  some (mrow 10 (va_cpy (fo1 10) (f 10) 0 0 6) (mrow 9 (va_cpy (fo1 9) (f 9) 0 0 6) (mrow 8 (va_cpy (fo1 8) (f 8) 0 0 6) (mrow 7 (va_cpy (fo1 7) (f 7) 0 0 6) (mrow 6 (va_cpy (fo1 6) (f 6) 0 0 5) (mrow 5 (va_cpy (fo1 5) (f 5) 0 0 5) (mrow 4 (va_cpy (fo1 4) (f 4) 0 0 15) (mrow 3 (va_cpy (fo1 3) (f 3) 0 0 3) (mrow 2 (va_cpy (fo1 2) (f 2) 0 0 3) (mrow 1 (va_cpy (fo1 1) (f 1) 0 0 3) (mset 0 2 (fo1 0 2) (mset 0 1 (fo1 0 1) (mset 0 0 (fo1 0 0) f)))))))))))))
set_option maxHeartbeats 4000000 in
set_option maxRecDepth 100000 in
theorem c_X0_copyFrom (l : Launch) (G : Gt) (ad : Nat → Nat) (ao1 : Nat → Nat) (f : Mem) (fo1 : Mem) (fz : Mem) (hf : p_X0_copyFrom f fo1 = some fz) (sz : Nat) : Met l yX0_copyFrom wsX0_copyFrom ({ frames := 1, cells := 0, slots := 0, locals := 40 }) (Pc0 G sz [.ref (ad 0), .ref (ao1 0)] (wX0 G ad f ++ (wX0 G ao1 fo1))) (Qv0 G (va_A (wX0 G ad f ++ (wX0 G ao1 fo1)) sz) (wX0 G ad fz ++ (wX0 G ao1 fo1))) 0 0 (va_A (wX0 G ad f ++ (wX0 G ao1 fo1)) sz) := by
  refine metP (Qf := fun A => Qv0 G A (wX0 G ad fz ++ (wX0 G ao1 fo1))) cX0_copyFrom 2 (none) (by decide) rfl (Nat.le_of_ble_eq_true rfl) ?_
  intro p e s m below meth c A ls hC hr hlocks hin hE hA hsz hP hD hS hl
  generalize hargs : ([.ref (ad 0), .ref (ao1 0)] : List Value).toArray = args at hC ⊢
  obtain ⟨hx, hb, hml, hown, hts⟩ := id hC
  have hT : va_K G.1 vwCl (tyL G) s := hE.1
  have hRet : ∀ (f9 : Mem) (H : Heap) (locs : List Loc) (ls : Array Slot) (pc : Nat) (hK9 : f9 = fz) (hdg : decode cX0_copyFrom pc = .ok (.return_, 1)), va_P G.1 vwCl (wX0 G ad f9 ++ (wX0 G ao1 fo1)) H → va_D A (wX0 G ad f9 ++ (wX0 G ao1 fo1)) → va_S A s.heap H locs → W p l e ({ frames := 1, cells := 0, slots := 0, locals := 40 }) s m args below meth c H locs 0 0 (MQ below (Qv0 G A (wX0 G ad fz ++ (wX0 G ao1 fo1))) args s 0 0 A) (F0 m pc ls []) := by
    intro f9 H locs ls pc hK9 hdg hP hD hS
    cases hK9
    exact W.vret hx hb hr (fun t ht hW => ⟨⟨(), rfl, trivial, by rw [ht]; exact hP, hD⟩, hS.F ht⟩) hS.2.2 hdg hlocks
  generalize MQ below (Qv0 G A (wX0 G ad fz ++ (wX0 G ao1 fo1))) args s 0 0 A = Q at hRet ⊢
  have lk9 := hts (.fieldLink RX0 9 "FeatherShares$Flock" "geese" "I") (by decide +kernel)
  have inX0 : ∀ w ∈ u_ws RX0 TX0 13, w ∈ wsX0_copyFrom := by decide +kernel
  have lk15 := hts (.fieldLink RX0 15 "FeatherShares$Flock" "week" "I") (by decide +kernel)
  have lk18 := hts (.fieldLink RX0 18 "FeatherShares$Flock" "trades" "I") (by decide +kernel)
  have lk21 := hts (.fieldLink RX0 21 "FeatherShares$Flock" "kind" "[I") (by decide +kernel)
  have lk25 := hts (.fieldLink RX0 25 "FeatherShares$Flock" "skin" "[I") (by decide +kernel)
  have lk28 := hts (.fieldLink RX0 28 "FeatherShares$Flock" "price" "[I") (by decide +kernel)
  have lk31 := hts (.fieldLink RX0 31 "FeatherShares$Flock" "feathers" "[I") (by decide +kernel)
  have lk34 := hts (.fieldLink RX0 34 "FeatherShares$Flock" "money" "[I") (by decide +kernel)
  have lk37 := hts (.fieldLink RX0 37 "FeatherShares$Flock" "eggsHad" "[I") (by decide +kernel)
  have lk40 := hts (.fieldLink RX0 40 "FeatherShares$Flock" "planBuyer" "[I") (by decide +kernel)
  have lk43 := hts (.fieldLink RX0 43 "FeatherShares$Flock" "planSeller" "[I") (by decide +kernel)
  have lk46 := hts (.fieldLink RX0 46 "FeatherShares$Flock" "planGoose" "[I") (by decide +kernel)
  have lk49 := hts (.fieldLink RX0 49 "FeatherShares$Flock" "planAmount" "[I") (by decide +kernel)
  have hl : lv_has ls 2 [(0, .ref (ad 0)), (1, .ref (ao1 0))] := hl
  have hK0 : fz = fz := rfl
  obtain ⟨res, hres, hK⟩ : ∃ res, p_X0_copyFrom f fo1 = some res ∧ res = fz := ⟨_, hf, rfl⟩
  clear hf
  have hf := hres
  clear hres
  unfold p_X0_copyFrom at hf
  refine lv_aload_n hx hb dX0_copyFrom_0 rfl (lv_at hl 0 rfl) ?_
  refine lv_aload_n hx hb dX0_copyFrom_1 rfl (lv_at hl 1 rfl) ?_
  refine va_get (C := RX0) (T := TX0) (N := 13) (ci := 0) (v := .int (fo1 0 0)) hx hb hts inX0 hown hT hP 11 rfl rfl 0 (Nat.le_of_ble_eq_true rfl) lk9 (fun _ h => h) rfl dX0_copyFrom_2 ?_
  refine va_put (C := RX0) (T := TX0) (N := 13) (ci := 0) (ty := .int) (v := .int (fo1 0 0)) hx hb hts inX0 tyX0 tyX0_ok nmX0 hown hT hP hD hS 0 rfl rfl 0 (Nat.le_of_ble_eq_true rfl) lk9 (fun _ h => h) rfl (by decide +kernel) rfl rfl (Nat.le_of_ble_eq_true rfl) dX0_copyFrom_5 (fun H locs hP hD hS => ?_)
  have hP : va_P G.1 vwCl (wX0 G ad (mset 0 0 (fo1 0 0) f) ++ (wX0 G ao1 fo1)) H := hP
  have hD : va_D A (wX0 G ad (mset 0 0 (fo1 0 0) f) ++ (wX0 G ao1 fo1)) := hD
  refine lv_aload_n hx hb dX0_copyFrom_8 rfl (lv_at hl 0 rfl) ?_
  refine lv_aload_n hx hb dX0_copyFrom_9 rfl (lv_at hl 1 rfl) ?_
  refine va_get (C := RX0) (T := TX0) (N := 13) (ci := 0) (v := .int (fo1 0 1)) hx hb hts inX0 hown hT hP 11 rfl rfl 1 (Nat.le_of_ble_eq_true rfl) lk15 (fun _ h => h) rfl dX0_copyFrom_10 ?_
  refine va_put (C := RX0) (T := TX0) (N := 13) (ci := 0) (ty := .int) (v := .int (fo1 0 1)) hx hb hts inX0 tyX0 tyX0_ok nmX0 hown hT hP hD hS 0 rfl rfl 1 (Nat.le_of_ble_eq_true rfl) lk15 (fun _ h => h) rfl (by decide +kernel) rfl rfl (Nat.le_of_ble_eq_true rfl) dX0_copyFrom_13 (fun H locs hP hD hS => ?_)
  have hP : va_P G.1 vwCl (wX0 G ad (mset 0 1 (fo1 0 1) (mset 0 0 (fo1 0 0) f)) ++ (wX0 G ao1 fo1)) H := hP
  have hD : va_D A (wX0 G ad (mset 0 1 (fo1 0 1) (mset 0 0 (fo1 0 0) f)) ++ (wX0 G ao1 fo1)) := hD
  refine lv_aload_n hx hb dX0_copyFrom_16 rfl (lv_at hl 0 rfl) ?_
  refine lv_aload_n hx hb dX0_copyFrom_17 rfl (lv_at hl 1 rfl) ?_
  refine va_get (C := RX0) (T := TX0) (N := 13) (ci := 0) (v := .int (fo1 0 2)) hx hb hts inX0 hown hT hP 11 rfl rfl 2 (Nat.le_of_ble_eq_true rfl) lk18 (fun _ h => h) rfl dX0_copyFrom_18 ?_
  refine va_put (C := RX0) (T := TX0) (N := 13) (ci := 0) (ty := .int) (v := .int (fo1 0 2)) hx hb hts inX0 tyX0 tyX0_ok nmX0 hown hT hP hD hS 0 rfl rfl 2 (Nat.le_of_ble_eq_true rfl) lk18 (fun _ h => h) rfl (by decide +kernel) rfl rfl (Nat.le_of_ble_eq_true rfl) dX0_copyFrom_21 (fun H locs hP hD hS => ?_)
  have hP : va_P G.1 vwCl (wX0 G ad (mset 0 2 (fo1 0 2) (mset 0 1 (fo1 0 1) (mset 0 0 (fo1 0 0) f))) ++ (wX0 G ao1 fo1)) H := hP
  have hD : va_D A (wX0 G ad (mset 0 2 (fo1 0 2) (mset 0 1 (fo1 0 1) (mset 0 0 (fo1 0 0) f))) ++ (wX0 G ao1 fo1)) := hD
  refine lv_aload_n hx hb dX0_copyFrom_24 rfl (lv_at hl 1 rfl) ?_
  refine va_get (C := RX0) (T := TX0) (N := 13) (ci := 0) (v := .ref (ao1 1)) hx hb hts inX0 hown hT hP 11 rfl rfl 3 (Nat.le_of_ble_eq_true rfl) lk21 (fun _ h => h) rfl dX0_copyFrom_25 ?_
  refine lv_iconst (v := (nI 0)) hx hb dX0_copyFrom_28 (ic_0) ?_
  refine lv_aload_n hx hb dX0_copyFrom_29 rfl (lv_at hl 0 rfl) ?_
  refine va_get (C := RX0) (T := TX0) (N := 13) (ci := 0) (v := .ref (ad 1)) hx hb hts inX0 hown hT hP 0 rfl rfl 3 (Nat.le_of_ble_eq_true rfl) lk21 (fun _ h => h) rfl dX0_copyFrom_30 ?_
  refine lv_iconst (v := (nI 0)) hx hb dX0_copyFrom_33 (ic_0) ?_
  refine lv_iconst (v := (nI 3)) hx hb dX0_copyFrom_34 (ic_3) ?_
  refine va_copyi (f := fo1 1) (g := f 1) hx hb (hml.trans hl.1.symm) hown (hts (.methodLink RX0 58 arraycopyName) (by decide +kernel)) (hts (.native arraycopyName) (by decide +kernel)) (hts (.static arraycopyName) (by decide +kernel)) (hts (.initialized "java/lang/System") (by decide +kernel)) hT hP hD hS 12 1 0 0 rfl rfl rfl rfl rfl (by decide) (by decide) (by decide) (by decide) (by decide) (fun _ _ => rfl) (Nat.le_of_ble_eq_true rfl) (by decide) dX0_copyFrom_35 (fun H locs hP hD hS => ?_)
  have hP : va_P G.1 vwCl (wX0 G ad (mrow 1 (va_cpy (fo1 1) (f 1) 0 0 3) (mset 0 2 (fo1 0 2) (mset 0 1 (fo1 0 1) (mset 0 0 (fo1 0 0) f)))) ++ (wX0 G ao1 fo1)) H := hP
  have hD : va_D A (wX0 G ad (mrow 1 (va_cpy (fo1 1) (f 1) 0 0 3) (mset 0 2 (fo1 0 2) (mset 0 1 (fo1 0 1) (mset 0 0 (fo1 0 0) f)))) ++ (wX0 G ao1 fo1)) := hD
  refine lv_aload_n hx hb dX0_copyFrom_38 rfl (lv_at hl 1 rfl) ?_
  refine va_get (C := RX0) (T := TX0) (N := 13) (ci := 0) (v := .ref (ao1 2)) hx hb hts inX0 hown hT hP 11 rfl rfl 4 (Nat.le_of_ble_eq_true rfl) lk25 (fun _ h => h) rfl dX0_copyFrom_39 ?_
  refine lv_iconst (v := (nI 0)) hx hb dX0_copyFrom_42 (ic_0) ?_
  refine lv_aload_n hx hb dX0_copyFrom_43 rfl (lv_at hl 0 rfl) ?_
  refine va_get (C := RX0) (T := TX0) (N := 13) (ci := 0) (v := .ref (ad 2)) hx hb hts inX0 hown hT hP 0 rfl rfl 4 (Nat.le_of_ble_eq_true rfl) lk25 (fun _ h => h) rfl dX0_copyFrom_44 ?_
  refine lv_iconst (v := (nI 0)) hx hb dX0_copyFrom_47 (ic_0) ?_
  refine lv_iconst (v := (nI 3)) hx hb dX0_copyFrom_48 (ic_3) ?_
  refine va_copyi (f := fo1 2) (g := f 2) hx hb (hml.trans hl.1.symm) hown (hts (.methodLink RX0 58 arraycopyName) (by decide +kernel)) (hts (.native arraycopyName) (by decide +kernel)) (hts (.static arraycopyName) (by decide +kernel)) (hts (.initialized "java/lang/System") (by decide +kernel)) hT hP hD hS 13 2 0 0 rfl rfl rfl rfl rfl (by decide) (by decide) (by decide) (by decide) (by decide) (fun _ _ => rfl) (Nat.le_of_ble_eq_true rfl) (by decide) dX0_copyFrom_49 (fun H locs hP hD hS => ?_)
  have hP : va_P G.1 vwCl (wX0 G ad (mrow 2 (va_cpy (fo1 2) (f 2) 0 0 3) (mrow 1 (va_cpy (fo1 1) (f 1) 0 0 3) (mset 0 2 (fo1 0 2) (mset 0 1 (fo1 0 1) (mset 0 0 (fo1 0 0) f))))) ++ (wX0 G ao1 fo1)) H := hP
  have hD : va_D A (wX0 G ad (mrow 2 (va_cpy (fo1 2) (f 2) 0 0 3) (mrow 1 (va_cpy (fo1 1) (f 1) 0 0 3) (mset 0 2 (fo1 0 2) (mset 0 1 (fo1 0 1) (mset 0 0 (fo1 0 0) f))))) ++ (wX0 G ao1 fo1)) := hD
  refine lv_aload_n hx hb dX0_copyFrom_52 rfl (lv_at hl 1 rfl) ?_
  refine va_get (C := RX0) (T := TX0) (N := 13) (ci := 0) (v := .ref (ao1 3)) hx hb hts inX0 hown hT hP 11 rfl rfl 5 (Nat.le_of_ble_eq_true rfl) lk28 (fun _ h => h) rfl dX0_copyFrom_53 ?_
  refine lv_iconst (v := (nI 0)) hx hb dX0_copyFrom_56 (ic_0) ?_
  refine lv_aload_n hx hb dX0_copyFrom_57 rfl (lv_at hl 0 rfl) ?_
  refine va_get (C := RX0) (T := TX0) (N := 13) (ci := 0) (v := .ref (ad 3)) hx hb hts inX0 hown hT hP 0 rfl rfl 5 (Nat.le_of_ble_eq_true rfl) lk28 (fun _ h => h) rfl dX0_copyFrom_58 ?_
  refine lv_iconst (v := (nI 0)) hx hb dX0_copyFrom_61 (ic_0) ?_
  refine lv_iconst (v := (nI 3)) hx hb dX0_copyFrom_62 (ic_3) ?_
  refine va_copyi (f := fo1 3) (g := f 3) hx hb (hml.trans hl.1.symm) hown (hts (.methodLink RX0 58 arraycopyName) (by decide +kernel)) (hts (.native arraycopyName) (by decide +kernel)) (hts (.static arraycopyName) (by decide +kernel)) (hts (.initialized "java/lang/System") (by decide +kernel)) hT hP hD hS 14 3 0 0 rfl rfl rfl rfl rfl (by decide) (by decide) (by decide) (by decide) (by decide) (fun _ _ => rfl) (Nat.le_of_ble_eq_true rfl) (by decide) dX0_copyFrom_63 (fun H locs hP hD hS => ?_)
  have hP : va_P G.1 vwCl (wX0 G ad (mrow 3 (va_cpy (fo1 3) (f 3) 0 0 3) (mrow 2 (va_cpy (fo1 2) (f 2) 0 0 3) (mrow 1 (va_cpy (fo1 1) (f 1) 0 0 3) (mset 0 2 (fo1 0 2) (mset 0 1 (fo1 0 1) (mset 0 0 (fo1 0 0) f)))))) ++ (wX0 G ao1 fo1)) H := hP
  have hD : va_D A (wX0 G ad (mrow 3 (va_cpy (fo1 3) (f 3) 0 0 3) (mrow 2 (va_cpy (fo1 2) (f 2) 0 0 3) (mrow 1 (va_cpy (fo1 1) (f 1) 0 0 3) (mset 0 2 (fo1 0 2) (mset 0 1 (fo1 0 1) (mset 0 0 (fo1 0 0) f)))))) ++ (wX0 G ao1 fo1)) := hD
  refine lv_aload_n hx hb dX0_copyFrom_66 rfl (lv_at hl 1 rfl) ?_
  refine va_get (C := RX0) (T := TX0) (N := 13) (ci := 0) (v := .ref (ao1 4)) hx hb hts inX0 hown hT hP 11 rfl rfl 6 (Nat.le_of_ble_eq_true rfl) lk31 (fun _ h => h) rfl dX0_copyFrom_67 ?_
  refine lv_iconst (v := (nI 0)) hx hb dX0_copyFrom_70 (ic_0) ?_
  refine lv_aload_n hx hb dX0_copyFrom_71 rfl (lv_at hl 0 rfl) ?_
  refine va_get (C := RX0) (T := TX0) (N := 13) (ci := 0) (v := .ref (ad 4)) hx hb hts inX0 hown hT hP 0 rfl rfl 6 (Nat.le_of_ble_eq_true rfl) lk31 (fun _ h => h) rfl dX0_copyFrom_72 ?_
  refine lv_iconst (v := (nI 0)) hx hb dX0_copyFrom_75 (ic_0) ?_
  refine lv_bipush (v := (nI 15)) hx hb dX0_copyFrom_76 (bi_15) ?_
  refine va_copyi (f := fo1 4) (g := f 4) hx hb (hml.trans hl.1.symm) hown (hts (.methodLink RX0 58 arraycopyName) (by decide +kernel)) (hts (.native arraycopyName) (by decide +kernel)) (hts (.static arraycopyName) (by decide +kernel)) (hts (.initialized "java/lang/System") (by decide +kernel)) hT hP hD hS 15 4 0 0 rfl rfl rfl rfl rfl (by decide) (by decide) (by decide) (by decide) (by decide) (fun _ _ => rfl) (Nat.le_of_ble_eq_true rfl) (by decide) dX0_copyFrom_78 (fun H locs hP hD hS => ?_)
  have hP : va_P G.1 vwCl (wX0 G ad (mrow 4 (va_cpy (fo1 4) (f 4) 0 0 15) (mrow 3 (va_cpy (fo1 3) (f 3) 0 0 3) (mrow 2 (va_cpy (fo1 2) (f 2) 0 0 3) (mrow 1 (va_cpy (fo1 1) (f 1) 0 0 3) (mset 0 2 (fo1 0 2) (mset 0 1 (fo1 0 1) (mset 0 0 (fo1 0 0) f))))))) ++ (wX0 G ao1 fo1)) H := hP
  have hD : va_D A (wX0 G ad (mrow 4 (va_cpy (fo1 4) (f 4) 0 0 15) (mrow 3 (va_cpy (fo1 3) (f 3) 0 0 3) (mrow 2 (va_cpy (fo1 2) (f 2) 0 0 3) (mrow 1 (va_cpy (fo1 1) (f 1) 0 0 3) (mset 0 2 (fo1 0 2) (mset 0 1 (fo1 0 1) (mset 0 0 (fo1 0 0) f))))))) ++ (wX0 G ao1 fo1)) := hD
  refine lv_aload_n hx hb dX0_copyFrom_81 rfl (lv_at hl 1 rfl) ?_
  refine va_get (C := RX0) (T := TX0) (N := 13) (ci := 0) (v := .ref (ao1 5)) hx hb hts inX0 hown hT hP 11 rfl rfl 7 (Nat.le_of_ble_eq_true rfl) lk34 (fun _ h => h) rfl dX0_copyFrom_82 ?_
  refine lv_iconst (v := (nI 0)) hx hb dX0_copyFrom_85 (ic_0) ?_
  refine lv_aload_n hx hb dX0_copyFrom_86 rfl (lv_at hl 0 rfl) ?_
  refine va_get (C := RX0) (T := TX0) (N := 13) (ci := 0) (v := .ref (ad 5)) hx hb hts inX0 hown hT hP 0 rfl rfl 7 (Nat.le_of_ble_eq_true rfl) lk34 (fun _ h => h) rfl dX0_copyFrom_87 ?_
  refine lv_iconst (v := (nI 0)) hx hb dX0_copyFrom_90 (ic_0) ?_
  refine lv_iconst (v := (nI 5)) hx hb dX0_copyFrom_91 (ic_5) ?_
  refine va_copyi (f := fo1 5) (g := f 5) hx hb (hml.trans hl.1.symm) hown (hts (.methodLink RX0 58 arraycopyName) (by decide +kernel)) (hts (.native arraycopyName) (by decide +kernel)) (hts (.static arraycopyName) (by decide +kernel)) (hts (.initialized "java/lang/System") (by decide +kernel)) hT hP hD hS 16 5 0 0 rfl rfl rfl rfl rfl (by decide) (by decide) (by decide) (by decide) (by decide) (fun _ _ => rfl) (Nat.le_of_ble_eq_true rfl) (by decide) dX0_copyFrom_92 (fun H locs hP hD hS => ?_)
  have hP : va_P G.1 vwCl (wX0 G ad (mrow 5 (va_cpy (fo1 5) (f 5) 0 0 5) (mrow 4 (va_cpy (fo1 4) (f 4) 0 0 15) (mrow 3 (va_cpy (fo1 3) (f 3) 0 0 3) (mrow 2 (va_cpy (fo1 2) (f 2) 0 0 3) (mrow 1 (va_cpy (fo1 1) (f 1) 0 0 3) (mset 0 2 (fo1 0 2) (mset 0 1 (fo1 0 1) (mset 0 0 (fo1 0 0) f)))))))) ++ (wX0 G ao1 fo1)) H := hP
  have hD : va_D A (wX0 G ad (mrow 5 (va_cpy (fo1 5) (f 5) 0 0 5) (mrow 4 (va_cpy (fo1 4) (f 4) 0 0 15) (mrow 3 (va_cpy (fo1 3) (f 3) 0 0 3) (mrow 2 (va_cpy (fo1 2) (f 2) 0 0 3) (mrow 1 (va_cpy (fo1 1) (f 1) 0 0 3) (mset 0 2 (fo1 0 2) (mset 0 1 (fo1 0 1) (mset 0 0 (fo1 0 0) f)))))))) ++ (wX0 G ao1 fo1)) := hD
  refine lv_aload_n hx hb dX0_copyFrom_95 rfl (lv_at hl 1 rfl) ?_
  refine va_get (C := RX0) (T := TX0) (N := 13) (ci := 0) (v := .ref (ao1 6)) hx hb hts inX0 hown hT hP 11 rfl rfl 8 (Nat.le_of_ble_eq_true rfl) lk37 (fun _ h => h) rfl dX0_copyFrom_96 ?_
  refine lv_iconst (v := (nI 0)) hx hb dX0_copyFrom_99 (ic_0) ?_
  refine lv_aload_n hx hb dX0_copyFrom_100 rfl (lv_at hl 0 rfl) ?_
  refine va_get (C := RX0) (T := TX0) (N := 13) (ci := 0) (v := .ref (ad 6)) hx hb hts inX0 hown hT hP 0 rfl rfl 8 (Nat.le_of_ble_eq_true rfl) lk37 (fun _ h => h) rfl dX0_copyFrom_101 ?_
  refine lv_iconst (v := (nI 0)) hx hb dX0_copyFrom_104 (ic_0) ?_
  refine lv_iconst (v := (nI 5)) hx hb dX0_copyFrom_105 (ic_5) ?_
  refine va_copyi (f := fo1 6) (g := f 6) hx hb (hml.trans hl.1.symm) hown (hts (.methodLink RX0 58 arraycopyName) (by decide +kernel)) (hts (.native arraycopyName) (by decide +kernel)) (hts (.static arraycopyName) (by decide +kernel)) (hts (.initialized "java/lang/System") (by decide +kernel)) hT hP hD hS 17 6 0 0 rfl rfl rfl rfl rfl (by decide) (by decide) (by decide) (by decide) (by decide) (fun _ _ => rfl) (Nat.le_of_ble_eq_true rfl) (by decide) dX0_copyFrom_106 (fun H locs hP hD hS => ?_)
  have hP : va_P G.1 vwCl (wX0 G ad (mrow 6 (va_cpy (fo1 6) (f 6) 0 0 5) (mrow 5 (va_cpy (fo1 5) (f 5) 0 0 5) (mrow 4 (va_cpy (fo1 4) (f 4) 0 0 15) (mrow 3 (va_cpy (fo1 3) (f 3) 0 0 3) (mrow 2 (va_cpy (fo1 2) (f 2) 0 0 3) (mrow 1 (va_cpy (fo1 1) (f 1) 0 0 3) (mset 0 2 (fo1 0 2) (mset 0 1 (fo1 0 1) (mset 0 0 (fo1 0 0) f))))))))) ++ (wX0 G ao1 fo1)) H := hP
  have hD : va_D A (wX0 G ad (mrow 6 (va_cpy (fo1 6) (f 6) 0 0 5) (mrow 5 (va_cpy (fo1 5) (f 5) 0 0 5) (mrow 4 (va_cpy (fo1 4) (f 4) 0 0 15) (mrow 3 (va_cpy (fo1 3) (f 3) 0 0 3) (mrow 2 (va_cpy (fo1 2) (f 2) 0 0 3) (mrow 1 (va_cpy (fo1 1) (f 1) 0 0 3) (mset 0 2 (fo1 0 2) (mset 0 1 (fo1 0 1) (mset 0 0 (fo1 0 0) f))))))))) ++ (wX0 G ao1 fo1)) := hD
  refine lv_aload_n hx hb dX0_copyFrom_109 rfl (lv_at hl 1 rfl) ?_
  refine va_get (C := RX0) (T := TX0) (N := 13) (ci := 0) (v := .ref (ao1 7)) hx hb hts inX0 hown hT hP 11 rfl rfl 9 (Nat.le_of_ble_eq_true rfl) lk40 (fun _ h => h) rfl dX0_copyFrom_110 ?_
  refine lv_iconst (v := (nI 0)) hx hb dX0_copyFrom_113 (ic_0) ?_
  refine lv_aload_n hx hb dX0_copyFrom_114 rfl (lv_at hl 0 rfl) ?_
  refine va_get (C := RX0) (T := TX0) (N := 13) (ci := 0) (v := .ref (ad 7)) hx hb hts inX0 hown hT hP 0 rfl rfl 9 (Nat.le_of_ble_eq_true rfl) lk40 (fun _ h => h) rfl dX0_copyFrom_115 ?_
  refine lv_iconst (v := (nI 0)) hx hb dX0_copyFrom_118 (ic_0) ?_
  refine lv_bipush (v := (nI 6)) hx hb dX0_copyFrom_119 (bi_6) ?_
  refine va_copyi (f := fo1 7) (g := f 7) hx hb (hml.trans hl.1.symm) hown (hts (.methodLink RX0 58 arraycopyName) (by decide +kernel)) (hts (.native arraycopyName) (by decide +kernel)) (hts (.static arraycopyName) (by decide +kernel)) (hts (.initialized "java/lang/System") (by decide +kernel)) hT hP hD hS 18 7 0 0 rfl rfl rfl rfl rfl (by decide) (by decide) (by decide) (by decide) (by decide) (fun _ _ => rfl) (Nat.le_of_ble_eq_true rfl) (by decide) dX0_copyFrom_121 (fun H locs hP hD hS => ?_)
  have hP : va_P G.1 vwCl (wX0 G ad (mrow 7 (va_cpy (fo1 7) (f 7) 0 0 6) (mrow 6 (va_cpy (fo1 6) (f 6) 0 0 5) (mrow 5 (va_cpy (fo1 5) (f 5) 0 0 5) (mrow 4 (va_cpy (fo1 4) (f 4) 0 0 15) (mrow 3 (va_cpy (fo1 3) (f 3) 0 0 3) (mrow 2 (va_cpy (fo1 2) (f 2) 0 0 3) (mrow 1 (va_cpy (fo1 1) (f 1) 0 0 3) (mset 0 2 (fo1 0 2) (mset 0 1 (fo1 0 1) (mset 0 0 (fo1 0 0) f)))))))))) ++ (wX0 G ao1 fo1)) H := hP
  have hD : va_D A (wX0 G ad (mrow 7 (va_cpy (fo1 7) (f 7) 0 0 6) (mrow 6 (va_cpy (fo1 6) (f 6) 0 0 5) (mrow 5 (va_cpy (fo1 5) (f 5) 0 0 5) (mrow 4 (va_cpy (fo1 4) (f 4) 0 0 15) (mrow 3 (va_cpy (fo1 3) (f 3) 0 0 3) (mrow 2 (va_cpy (fo1 2) (f 2) 0 0 3) (mrow 1 (va_cpy (fo1 1) (f 1) 0 0 3) (mset 0 2 (fo1 0 2) (mset 0 1 (fo1 0 1) (mset 0 0 (fo1 0 0) f)))))))))) ++ (wX0 G ao1 fo1)) := hD
  refine lv_aload_n hx hb dX0_copyFrom_124 rfl (lv_at hl 1 rfl) ?_
  refine va_get (C := RX0) (T := TX0) (N := 13) (ci := 0) (v := .ref (ao1 8)) hx hb hts inX0 hown hT hP 11 rfl rfl 10 (Nat.le_of_ble_eq_true rfl) lk43 (fun _ h => h) rfl dX0_copyFrom_125 ?_
  refine lv_iconst (v := (nI 0)) hx hb dX0_copyFrom_128 (ic_0) ?_
  refine lv_aload_n hx hb dX0_copyFrom_129 rfl (lv_at hl 0 rfl) ?_
  refine va_get (C := RX0) (T := TX0) (N := 13) (ci := 0) (v := .ref (ad 8)) hx hb hts inX0 hown hT hP 0 rfl rfl 10 (Nat.le_of_ble_eq_true rfl) lk43 (fun _ h => h) rfl dX0_copyFrom_130 ?_
  refine lv_iconst (v := (nI 0)) hx hb dX0_copyFrom_133 (ic_0) ?_
  refine lv_bipush (v := (nI 6)) hx hb dX0_copyFrom_134 (bi_6) ?_
  refine va_copyi (f := fo1 8) (g := f 8) hx hb (hml.trans hl.1.symm) hown (hts (.methodLink RX0 58 arraycopyName) (by decide +kernel)) (hts (.native arraycopyName) (by decide +kernel)) (hts (.static arraycopyName) (by decide +kernel)) (hts (.initialized "java/lang/System") (by decide +kernel)) hT hP hD hS 19 8 0 0 rfl rfl rfl rfl rfl (by decide) (by decide) (by decide) (by decide) (by decide) (fun _ _ => rfl) (Nat.le_of_ble_eq_true rfl) (by decide) dX0_copyFrom_136 (fun H locs hP hD hS => ?_)
  have hP : va_P G.1 vwCl (wX0 G ad (mrow 8 (va_cpy (fo1 8) (f 8) 0 0 6) (mrow 7 (va_cpy (fo1 7) (f 7) 0 0 6) (mrow 6 (va_cpy (fo1 6) (f 6) 0 0 5) (mrow 5 (va_cpy (fo1 5) (f 5) 0 0 5) (mrow 4 (va_cpy (fo1 4) (f 4) 0 0 15) (mrow 3 (va_cpy (fo1 3) (f 3) 0 0 3) (mrow 2 (va_cpy (fo1 2) (f 2) 0 0 3) (mrow 1 (va_cpy (fo1 1) (f 1) 0 0 3) (mset 0 2 (fo1 0 2) (mset 0 1 (fo1 0 1) (mset 0 0 (fo1 0 0) f))))))))))) ++ (wX0 G ao1 fo1)) H := hP
  have hD : va_D A (wX0 G ad (mrow 8 (va_cpy (fo1 8) (f 8) 0 0 6) (mrow 7 (va_cpy (fo1 7) (f 7) 0 0 6) (mrow 6 (va_cpy (fo1 6) (f 6) 0 0 5) (mrow 5 (va_cpy (fo1 5) (f 5) 0 0 5) (mrow 4 (va_cpy (fo1 4) (f 4) 0 0 15) (mrow 3 (va_cpy (fo1 3) (f 3) 0 0 3) (mrow 2 (va_cpy (fo1 2) (f 2) 0 0 3) (mrow 1 (va_cpy (fo1 1) (f 1) 0 0 3) (mset 0 2 (fo1 0 2) (mset 0 1 (fo1 0 1) (mset 0 0 (fo1 0 0) f))))))))))) ++ (wX0 G ao1 fo1)) := hD
  refine lv_aload_n hx hb dX0_copyFrom_139 rfl (lv_at hl 1 rfl) ?_
  refine va_get (C := RX0) (T := TX0) (N := 13) (ci := 0) (v := .ref (ao1 9)) hx hb hts inX0 hown hT hP 11 rfl rfl 11 (Nat.le_of_ble_eq_true rfl) lk46 (fun _ h => h) rfl dX0_copyFrom_140 ?_
  refine lv_iconst (v := (nI 0)) hx hb dX0_copyFrom_143 (ic_0) ?_
  refine lv_aload_n hx hb dX0_copyFrom_144 rfl (lv_at hl 0 rfl) ?_
  refine va_get (C := RX0) (T := TX0) (N := 13) (ci := 0) (v := .ref (ad 9)) hx hb hts inX0 hown hT hP 0 rfl rfl 11 (Nat.le_of_ble_eq_true rfl) lk46 (fun _ h => h) rfl dX0_copyFrom_145 ?_
  refine lv_iconst (v := (nI 0)) hx hb dX0_copyFrom_148 (ic_0) ?_
  refine lv_bipush (v := (nI 6)) hx hb dX0_copyFrom_149 (bi_6) ?_
  refine va_copyi (f := fo1 9) (g := f 9) hx hb (hml.trans hl.1.symm) hown (hts (.methodLink RX0 58 arraycopyName) (by decide +kernel)) (hts (.native arraycopyName) (by decide +kernel)) (hts (.static arraycopyName) (by decide +kernel)) (hts (.initialized "java/lang/System") (by decide +kernel)) hT hP hD hS 20 9 0 0 rfl rfl rfl rfl rfl (by decide) (by decide) (by decide) (by decide) (by decide) (fun _ _ => rfl) (Nat.le_of_ble_eq_true rfl) (by decide) dX0_copyFrom_151 (fun H locs hP hD hS => ?_)
  have hP : va_P G.1 vwCl (wX0 G ad (mrow 9 (va_cpy (fo1 9) (f 9) 0 0 6) (mrow 8 (va_cpy (fo1 8) (f 8) 0 0 6) (mrow 7 (va_cpy (fo1 7) (f 7) 0 0 6) (mrow 6 (va_cpy (fo1 6) (f 6) 0 0 5) (mrow 5 (va_cpy (fo1 5) (f 5) 0 0 5) (mrow 4 (va_cpy (fo1 4) (f 4) 0 0 15) (mrow 3 (va_cpy (fo1 3) (f 3) 0 0 3) (mrow 2 (va_cpy (fo1 2) (f 2) 0 0 3) (mrow 1 (va_cpy (fo1 1) (f 1) 0 0 3) (mset 0 2 (fo1 0 2) (mset 0 1 (fo1 0 1) (mset 0 0 (fo1 0 0) f)))))))))))) ++ (wX0 G ao1 fo1)) H := hP
  have hD : va_D A (wX0 G ad (mrow 9 (va_cpy (fo1 9) (f 9) 0 0 6) (mrow 8 (va_cpy (fo1 8) (f 8) 0 0 6) (mrow 7 (va_cpy (fo1 7) (f 7) 0 0 6) (mrow 6 (va_cpy (fo1 6) (f 6) 0 0 5) (mrow 5 (va_cpy (fo1 5) (f 5) 0 0 5) (mrow 4 (va_cpy (fo1 4) (f 4) 0 0 15) (mrow 3 (va_cpy (fo1 3) (f 3) 0 0 3) (mrow 2 (va_cpy (fo1 2) (f 2) 0 0 3) (mrow 1 (va_cpy (fo1 1) (f 1) 0 0 3) (mset 0 2 (fo1 0 2) (mset 0 1 (fo1 0 1) (mset 0 0 (fo1 0 0) f)))))))))))) ++ (wX0 G ao1 fo1)) := hD
  refine lv_aload_n hx hb dX0_copyFrom_154 rfl (lv_at hl 1 rfl) ?_
  refine va_get (C := RX0) (T := TX0) (N := 13) (ci := 0) (v := .ref (ao1 10)) hx hb hts inX0 hown hT hP 11 rfl rfl 12 (Nat.le_of_ble_eq_true rfl) lk49 (fun _ h => h) rfl dX0_copyFrom_155 ?_
  refine lv_iconst (v := (nI 0)) hx hb dX0_copyFrom_158 (ic_0) ?_
  refine lv_aload_n hx hb dX0_copyFrom_159 rfl (lv_at hl 0 rfl) ?_
  refine va_get (C := RX0) (T := TX0) (N := 13) (ci := 0) (v := .ref (ad 10)) hx hb hts inX0 hown hT hP 0 rfl rfl 12 (Nat.le_of_ble_eq_true rfl) lk49 (fun _ h => h) rfl dX0_copyFrom_160 ?_
  refine lv_iconst (v := (nI 0)) hx hb dX0_copyFrom_163 (ic_0) ?_
  refine lv_bipush (v := (nI 6)) hx hb dX0_copyFrom_164 (bi_6) ?_
  refine va_copyi (f := fo1 10) (g := f 10) hx hb (hml.trans hl.1.symm) hown (hts (.methodLink RX0 58 arraycopyName) (by decide +kernel)) (hts (.native arraycopyName) (by decide +kernel)) (hts (.static arraycopyName) (by decide +kernel)) (hts (.initialized "java/lang/System") (by decide +kernel)) hT hP hD hS 21 10 0 0 rfl rfl rfl rfl rfl (by decide) (by decide) (by decide) (by decide) (by decide) (fun _ _ => rfl) (Nat.le_of_ble_eq_true rfl) (by decide) dX0_copyFrom_166 (fun H locs hP hD hS => ?_)
  have hP : va_P G.1 vwCl (wX0 G ad (mrow 10 (va_cpy (fo1 10) (f 10) 0 0 6) (mrow 9 (va_cpy (fo1 9) (f 9) 0 0 6) (mrow 8 (va_cpy (fo1 8) (f 8) 0 0 6) (mrow 7 (va_cpy (fo1 7) (f 7) 0 0 6) (mrow 6 (va_cpy (fo1 6) (f 6) 0 0 5) (mrow 5 (va_cpy (fo1 5) (f 5) 0 0 5) (mrow 4 (va_cpy (fo1 4) (f 4) 0 0 15) (mrow 3 (va_cpy (fo1 3) (f 3) 0 0 3) (mrow 2 (va_cpy (fo1 2) (f 2) 0 0 3) (mrow 1 (va_cpy (fo1 1) (f 1) 0 0 3) (mset 0 2 (fo1 0 2) (mset 0 1 (fo1 0 1) (mset 0 0 (fo1 0 0) f))))))))))))) ++ (wX0 G ao1 fo1)) H := hP
  have hD : va_D A (wX0 G ad (mrow 10 (va_cpy (fo1 10) (f 10) 0 0 6) (mrow 9 (va_cpy (fo1 9) (f 9) 0 0 6) (mrow 8 (va_cpy (fo1 8) (f 8) 0 0 6) (mrow 7 (va_cpy (fo1 7) (f 7) 0 0 6) (mrow 6 (va_cpy (fo1 6) (f 6) 0 0 5) (mrow 5 (va_cpy (fo1 5) (f 5) 0 0 5) (mrow 4 (va_cpy (fo1 4) (f 4) 0 0 15) (mrow 3 (va_cpy (fo1 3) (f 3) 0 0 3) (mrow 2 (va_cpy (fo1 2) (f 2) 0 0 3) (mrow 1 (va_cpy (fo1 1) (f 1) 0 0 3) (mset 0 2 (fo1 0 2) (mset 0 1 (fo1 0 1) (mset 0 0 (fo1 0 0) f))))))))))))) ++ (wX0 G ao1 fo1)) := hD
  have hK9 := K0_of hf hK
  exact hRet (mrow 10 (va_cpy (fo1 10) (f 10) 0 0 6) (mrow 9 (va_cpy (fo1 9) (f 9) 0 0 6) (mrow 8 (va_cpy (fo1 8) (f 8) 0 0 6) (mrow 7 (va_cpy (fo1 7) (f 7) 0 0 6) (mrow 6 (va_cpy (fo1 6) (f 6) 0 0 5) (mrow 5 (va_cpy (fo1 5) (f 5) 0 0 5) (mrow 4 (va_cpy (fo1 4) (f 4) 0 0 15) (mrow 3 (va_cpy (fo1 3) (f 3) 0 0 3) (mrow 2 (va_cpy (fo1 2) (f 2) 0 0 3) (mrow 1 (va_cpy (fo1 1) (f 1) 0 0 3) (mset 0 2 (fo1 0 2) (mset 0 1 (fo1 0 1) (mset 0 0 (fo1 0 0) f))))))))))))) _ _ _ _ hK9 dX0_copyFrom_169 hP hD hS
noncomputable def p_X6_isWithin (x0 : Int32) (x1 : Int32) (x2 : Int32) : Option (Int32) :=
  if x0 < x1 then
    (some (nI 0))
  else
    (if x2 < x0 then
       (some (nI 0))
     else
       (some (nI 1)))
set_option maxHeartbeats 4000000 in
set_option maxRecDepth 100000 in
theorem c_X6_isWithin (l : Launch) (G : Gt)  (x0 : Int32) (x1 : Int32) (x2 : Int32) (r : Int32) (hf : p_X6_isWithin x0 x1 x2 = some r) (sz : Nat) : Met l yX6_isWithin wsX6_isWithin ({ frames := 1, cells := 0, slots := 0, locals := 12 }) (Pc0 G sz [.int x0, .int x1, .int x2] ([] : va_W)) (Qz0 G (va_A ([] : va_W) sz) r ([] : va_W)) 0 0 (va_A ([] : va_W) sz) := by
  refine metP (Qf := fun A => Qz0 G A r ([] : va_W)) cX6_isWithin 3 (some .boolean) (by decide) rfl (Nat.le_of_ble_eq_true rfl) ?_
  intro p e s m below meth c A ls hC hr hlocks hin hE hA hsz hP hD hS hl
  generalize hargs : ([.int x0, .int x1, .int x2] : List Value).toArray = args at hC ⊢
  obtain ⟨hx, hb, hml, hown, hts⟩ := id hC
  have hT : va_K G.1 vwCl (tyL G) s := hE.1
  have hRet : ∀ (r9 : Int32) (H : Heap) (locs : List Loc) (ls : Array Slot) (pc : Nat) (hK9 : r9 = r) (hn9 : narrow .boolean (.int r9) = .int r9) (hdg : decode cX6_isWithin pc = .ok (.ireturn, 1)), va_P G.1 vwCl ([] : va_W) H → va_D A ([] : va_W) → va_S A s.heap H locs → W p l e ({ frames := 1, cells := 0, slots := 0, locals := 12 }) s m args below meth c H locs 0 0 (MQ below (Qz0 G A r ([] : va_W)) args s 0 0 A) (F0 m pc ls [.int r9]) := by
    intro r9 H locs ls pc hK9 hn9 hdg hP hD hS
    cases hK9
    exact W.zret hx hb hr hn9 (fun t ht hW => ⟨⟨r, (), rfl, ⟨rfl, hn9⟩, by rw [ht]; exact hP, hD⟩, hS.F ht⟩) hS.2.2 hdg hlocks
  generalize MQ below (Qz0 G A r ([] : va_W)) args s 0 0 A = Q at hRet ⊢
  have hl : lv_has ls 3 [(0, .int x0), (1, .int x1), (2, .int x2)] := hl
  have hK0 : r = r := rfl
  obtain ⟨res, hres, hK⟩ : ∃ res, p_X6_isWithin x0 x1 x2 = some res ∧ res = r := ⟨_, hf, rfl⟩
  clear hf
  have hf := hres
  clear hres
  unfold p_X6_isWithin at hf
  refine lv_iload_n hx hb dX6_isWithin_0 rfl (lv_at hl 0 rfl) ?_
  refine lv_iload_n hx hb dX6_isWithin_1 rfl (lv_at hl 1 rfl) ?_
  refine lv_icmp_lt (tgt := 14) hx hb dX6_isWithin_2 (by decide) (fun hc => ?_) (fun hc => ?_)
  · have hf := if_t hf hc
    refine lv_iconst (v := (nI 0)) hx hb dX6_isWithin_14 (ic_0) ?_
    have hK9 := K0_of hf hK
    exact hRet (nI 0) _ _ _ _ hK9 rfl dX6_isWithin_15 hP hD hS
  · have hf := if_f hf hc
    refine lv_iload_n hx hb dX6_isWithin_5 rfl (lv_at hl 0 rfl) ?_
    refine lv_iload_n hx hb dX6_isWithin_6 rfl (lv_at hl 2 rfl) ?_
    refine lv_icmp_gt (tgt := 14) hx hb dX6_isWithin_7 (by decide) (fun hc => ?_) (fun hc => ?_)
    · have hf := if_t hf hc
      refine lv_iconst (v := (nI 0)) hx hb dX6_isWithin_14 (ic_0) ?_
      have hK9 := K0_of hf hK
      exact hRet (nI 0) _ _ _ _ hK9 rfl dX6_isWithin_15 hP hD hS
    · have hf := if_f hf hc
      refine lv_iconst (v := (nI 1)) hx hb dX6_isWithin_10 (ic_1) ?_
      refine lv_goto (tgt := 15) hx hb dX6_isWithin_11 (by decide) ?_
      have hK9 := K0_of hf hK
      exact hRet (nI 1) _ _ _ _ hK9 rfl dX6_isWithin_15 hP hD hS
noncomputable def p_X0_hasGoose (f : Mem) (x1 : Int32) : Option (Int32) :=
  Option.bind (p_X6_isWithin x1 (nI 0) ((f 0 0) - (nI 1))) <| fun r8 =>
  some r8
set_option maxHeartbeats 4000000 in
set_option maxRecDepth 100000 in
theorem c_X0_hasGoose (l : Launch) (G : Gt) (ad : Nat → Nat) (f : Mem) (x1 : Int32) (r : Int32) (hf : p_X0_hasGoose f x1 = some r) (sz : Nat) : Met l yX0_hasGoose wsX0_hasGoose ({ frames := 2, cells := 0, slots := 0, locals := 34 }) (Pc0 G sz [.ref (ad 0), .int x1] (wX0 G ad f)) (Qz0 G (va_A (wX0 G ad f) sz) r (wX0 G ad f)) 0 0 (va_A (wX0 G ad f) sz) := by
  refine metP (Qf := fun A => Qz0 G A r (wX0 G ad f)) cX0_hasGoose 2 (some .boolean) (by decide) rfl (Nat.le_of_ble_eq_true rfl) ?_
  intro p e s m below meth c A ls hC hr hlocks hin hE hA hsz hP hD hS hl
  generalize hargs : ([.ref (ad 0), .int x1] : List Value).toArray = args at hC ⊢
  obtain ⟨hx, hb, hml, hown, hts⟩ := id hC
  have hT : va_K G.1 vwCl (tyL G) s := hE.1
  have hRet : ∀ (r9 : Int32) (H : Heap) (locs : List Loc) (ls : Array Slot) (pc : Nat) (hK9 : r9 = r) (hn9 : narrow .boolean (.int r9) = .int r9) (hdg : decode cX0_hasGoose pc = .ok (.ireturn, 1)), va_P G.1 vwCl (wX0 G ad f) H → va_D A (wX0 G ad f) → va_S A s.heap H locs → W p l e ({ frames := 2, cells := 0, slots := 0, locals := 34 }) s m args below meth c H locs 0 0 (MQ below (Qz0 G A r (wX0 G ad f)) args s 0 0 A) (F0 m pc ls [.int r9]) := by
    intro r9 H locs ls pc hK9 hn9 hdg hP hD hS
    cases hK9
    exact W.zret hx hb hr hn9 (fun t ht hW => ⟨⟨r, (), rfl, ⟨rfl, hn9⟩, by rw [ht]; exact hP, hD⟩, hS.F ht⟩) hS.2.2 hdg hlocks
  generalize MQ below (Qz0 G A r (wX0 G ad f)) args s 0 0 A = Q at hRet ⊢
  have lk9 := hts (.fieldLink RX0 9 "FeatherShares$Flock" "geese" "I") (by decide +kernel)
  have inX0 : ∀ w ∈ u_ws RX0 TX0 13, w ∈ wsX0_hasGoose := by decide +kernel
  have hl : lv_has ls 2 [(0, .ref (ad 0)), (1, .int x1)] := hl
  have hK0 : r = r := rfl
  obtain ⟨res, hres, hK⟩ : ∃ res, p_X0_hasGoose f x1 = some res ∧ res = r := ⟨_, hf, rfl⟩
  clear hf
  have hf := hres
  clear hres
  unfold p_X0_hasGoose at hf
  refine lv_iload_n hx hb dX0_hasGoose_0 rfl (lv_at hl 1 rfl) ?_
  refine lv_iconst (v := (nI 0)) hx hb dX0_hasGoose_1 (ic_0) ?_
  refine lv_aload_n hx hb dX0_hasGoose_2 rfl (lv_at hl 0 rfl) ?_
  refine va_get (C := RX0) (T := TX0) (N := 13) (ci := 0) (v := .int (f 0 0)) hx hb hts inX0 hown hT hP 0 rfl rfl 0 (Nat.le_of_ble_eq_true rfl) lk9 (fun _ h => h) rfl dX0_hasGoose_3 ?_
  refine lv_iconst (v := (nI 1)) hx hb dX0_hasGoose_6 (ic_1) ?_
  refine lv_isub hx hb dX0_hasGoose_7 ?_
  obtain ⟨r8, hc8, hf⟩ := bd_e hf
  refine cl_z_ro (Wd := (wX0 G ad f)) (Wc := ([] : va_W)) [] rfl (va_runSN (As := [.int x1, .int (nI 0), .int ((f 0 0) - (nI 1))]) (rest := []) hC (c_X6_isWithin l G x1 (nI 0) ((f 0 0) - (nI 1)) r8 hc8 _) ⟨va_cnB 3 hts gX0_hasGoose_X6_isWithin_n64 rfl rfl rfl (hE.2.2 (RX0, 64, yX6_isWithin, "FeatherShares") (List.mem_of_getElem? (i := 38) rfl)) (hts (.initialized RX6) (by decide +kernel)) (by decide +kernel) ⟨Nat.le_of_ble_eq_true rfl, Nat.le_of_ble_eq_true rfl⟩, hts (.static yX6_isWithin) (by decide +kernel), trivial⟩ ⟨Pc0_blind, fun U hU hW => Pc0_at (Wd := ([] : va_W)) hE (hP.subm [] rfl) (hD.sub [] (by decide) rfl) hU hW⟩ rfl rfl hl.1 rfl (lv_room (Nat.le_of_ble_eq_true rfl)) dX0_hasGoose_8 ⟨Nat.zero_le _, Nat.zero_le _⟩) hS hA hP hD (fun H locs hn8 hP hD hS => ?_)
  have hK9 := K0_of hf hK
  exact hRet r8 _ _ _ _ hK9 hn8 dX0_hasGoose_11 hP hD hS
noncomputable def p_X0_addGoose (f : Mem) (x1 : Int32) (x2 : Int32) (x3 : Int32) : Option (Mem) :=
  if (f 0 0) < (nI 3) then
    (gd (inb (f 0 0) 3) <|
     bnd (upd (f 1) (f 0 0).toNatClampNeg x1) <| fun g18 =>
     gd (inb (f 0 0) 3) <|
     bnd (upd (f 2) (f 0 0).toNatClampNeg x2) <| fun g28 =>
     gd (inb (f 0 0) 3) <|
     bnd (upd (f 3) (f 0 0).toNatClampNeg x3) <| fun g38 =>
     some (mset 0 0 ((f 0 0) + (nI 1)) (mrow 3 (g38) (mrow 2 (g28) (mrow 1 (g18) f)))))
  else
    (some f)
set_option maxHeartbeats 4000000 in
set_option maxRecDepth 100000 in
theorem c_X0_addGoose (l : Launch) (G : Gt) (ad : Nat → Nat) (f : Mem) (x1 : Int32) (x2 : Int32) (x3 : Int32) (fz : Mem) (hf : p_X0_addGoose f x1 x2 x3 = some fz) (sz : Nat) : Met l yX0_addGoose wsX0_addGoose ({ frames := 1, cells := 0, slots := 0, locals := 12 }) (Pc0 G sz [.ref (ad 0), .int x1, .int x2, .int x3] (wX0 G ad f)) (Qv0 G (va_A (wX0 G ad f) sz) (wX0 G ad fz)) 0 0 (va_A (wX0 G ad f) sz) := by
  refine metP (Qf := fun A => Qv0 G A (wX0 G ad fz)) cX0_addGoose 4 (none) (by decide) rfl (Nat.le_of_ble_eq_true rfl) ?_
  intro p e s m below meth c A ls hC hr hlocks hin hE hA hsz hP hD hS hl
  generalize hargs : ([.ref (ad 0), .int x1, .int x2, .int x3] : List Value).toArray = args at hC ⊢
  obtain ⟨hx, hb, hml, hown, hts⟩ := id hC
  have hT : va_K G.1 vwCl (tyL G) s := hE.1
  have hRet : ∀ (f9 : Mem) (H : Heap) (locs : List Loc) (ls : Array Slot) (pc : Nat) (hK9 : f9 = fz) (hdg : decode cX0_addGoose pc = .ok (.return_, 1)), va_P G.1 vwCl (wX0 G ad f9) H → va_D A (wX0 G ad f9) → va_S A s.heap H locs → W p l e ({ frames := 1, cells := 0, slots := 0, locals := 12 }) s m args below meth c H locs 0 0 (MQ below (Qv0 G A (wX0 G ad fz)) args s 0 0 A) (F0 m pc ls []) := by
    intro f9 H locs ls pc hK9 hdg hP hD hS
    cases hK9
    exact W.vret hx hb hr (fun t ht hW => ⟨⟨(), rfl, trivial, by rw [ht]; exact hP, hD⟩, hS.F ht⟩) hS.2.2 hdg hlocks
  generalize MQ below (Qv0 G A (wX0 G ad fz)) args s 0 0 A = Q at hRet ⊢
  have lk9 := hts (.fieldLink RX0 9 "FeatherShares$Flock" "geese" "I") (by decide +kernel)
  have inX0 : ∀ w ∈ u_ws RX0 TX0 13, w ∈ wsX0_addGoose := by decide +kernel
  have lk21 := hts (.fieldLink RX0 21 "FeatherShares$Flock" "kind" "[I") (by decide +kernel)
  have lk25 := hts (.fieldLink RX0 25 "FeatherShares$Flock" "skin" "[I") (by decide +kernel)
  have lk28 := hts (.fieldLink RX0 28 "FeatherShares$Flock" "price" "[I") (by decide +kernel)
  have hl : lv_has ls 4 [(0, .ref (ad 0)), (1, .int x1), (2, .int x2), (3, .int x3)] := hl
  have hK0 : fz = fz := rfl
  obtain ⟨res, hres, hK⟩ : ∃ res, p_X0_addGoose f x1 x2 x3 = some res ∧ res = fz := ⟨_, hf, rfl⟩
  clear hf
  have hf := hres
  clear hres
  unfold p_X0_addGoose at hf
  refine lv_aload_n hx hb dX0_addGoose_0 rfl (lv_at hl 0 rfl) ?_
  refine va_get (C := RX0) (T := TX0) (N := 13) (ci := 0) (v := .int (f 0 0)) hx hb hts inX0 hown hT hP 0 rfl rfl 0 (Nat.le_of_ble_eq_true rfl) lk9 (fun _ h => h) rfl dX0_addGoose_1 ?_
  refine lv_iconst (v := (nI 3)) hx hb dX0_addGoose_4 (ic_3) ?_
  refine lv_icmp_lt (tgt := 9) hx hb dX0_addGoose_5 (by decide) (fun hc => ?_) (fun hc => ?_)
  · have hf := if_t hf hc
    refine lv_aload_n hx hb dX0_addGoose_9 rfl (lv_at hl 0 rfl) ?_
    refine va_get (C := RX0) (T := TX0) (N := 13) (ci := 0) (v := .ref (ad 1)) hx hb hts inX0 hown hT hP 0 rfl rfl 3 (Nat.le_of_ble_eq_true rfl) lk21 (fun _ h => h) rfl dX0_addGoose_10 ?_
    refine lv_aload_n hx hb dX0_addGoose_13 rfl (lv_at hl 0 rfl) ?_
    refine va_get (C := RX0) (T := TX0) (N := 13) (ci := 0) (v := .int (f 0 0)) hx hb hts inX0 hown hT hP 0 rfl rfl 0 (Nat.le_of_ble_eq_true rfl) lk9 (fun _ h => h) rfl dX0_addGoose_14 ?_
    refine lv_iload_n hx hb dX0_addGoose_17 rfl (lv_at hl 1 rfl) ?_
    obtain ⟨hg, hf⟩ := gd_e hf
    obtain ⟨g18, eg18, hf⟩ := bnd_e hf
    refine va_iast (f := f 1) hx hb hT hP hD hS 1 0 rfl rfl (inb_e hg) dX0_addGoose_18 (fun H locs hP hD hS => ?_)
    rw [← eg18] at hP hD
    have hP : va_P G.1 vwCl (wX0 G ad (mrow 1 (g18) f)) H := hP
    have hD : va_D A (wX0 G ad (mrow 1 (g18) f)) := hD
    refine lv_aload_n hx hb dX0_addGoose_19 rfl (lv_at hl 0 rfl) ?_
    refine va_get (C := RX0) (T := TX0) (N := 13) (ci := 0) (v := .ref (ad 2)) hx hb hts inX0 hown hT hP 0 rfl rfl 4 (Nat.le_of_ble_eq_true rfl) lk25 (fun _ h => h) rfl dX0_addGoose_20 ?_
    refine lv_aload_n hx hb dX0_addGoose_23 rfl (lv_at hl 0 rfl) ?_
    refine va_get (C := RX0) (T := TX0) (N := 13) (ci := 0) (v := .int (f 0 0)) hx hb hts inX0 hown hT hP 0 rfl rfl 0 (Nat.le_of_ble_eq_true rfl) lk9 (fun _ h => h) rfl dX0_addGoose_24 ?_
    refine lv_iload_n hx hb dX0_addGoose_27 rfl (lv_at hl 2 rfl) ?_
    obtain ⟨hg, hf⟩ := gd_e hf
    obtain ⟨g28, eg28, hf⟩ := bnd_e hf
    refine va_iast (f := f 2) hx hb hT hP hD hS 2 0 rfl rfl (inb_e hg) dX0_addGoose_28 (fun H locs hP hD hS => ?_)
    rw [← eg28] at hP hD
    have hP : va_P G.1 vwCl (wX0 G ad (mrow 2 (g28) (mrow 1 (g18) f))) H := hP
    have hD : va_D A (wX0 G ad (mrow 2 (g28) (mrow 1 (g18) f))) := hD
    refine lv_aload_n hx hb dX0_addGoose_29 rfl (lv_at hl 0 rfl) ?_
    refine va_get (C := RX0) (T := TX0) (N := 13) (ci := 0) (v := .ref (ad 3)) hx hb hts inX0 hown hT hP 0 rfl rfl 5 (Nat.le_of_ble_eq_true rfl) lk28 (fun _ h => h) rfl dX0_addGoose_30 ?_
    refine lv_aload_n hx hb dX0_addGoose_33 rfl (lv_at hl 0 rfl) ?_
    refine va_get (C := RX0) (T := TX0) (N := 13) (ci := 0) (v := .int (f 0 0)) hx hb hts inX0 hown hT hP 0 rfl rfl 0 (Nat.le_of_ble_eq_true rfl) lk9 (fun _ h => h) rfl dX0_addGoose_34 ?_
    refine lv_iload_n hx hb dX0_addGoose_37 rfl (lv_at hl 3 rfl) ?_
    obtain ⟨hg, hf⟩ := gd_e hf
    obtain ⟨g38, eg38, hf⟩ := bnd_e hf
    refine va_iast (f := f 3) hx hb hT hP hD hS 3 0 rfl rfl (inb_e hg) dX0_addGoose_38 (fun H locs hP hD hS => ?_)
    rw [← eg38] at hP hD
    have hP : va_P G.1 vwCl (wX0 G ad (mrow 3 (g38) (mrow 2 (g28) (mrow 1 (g18) f)))) H := hP
    have hD : va_D A (wX0 G ad (mrow 3 (g38) (mrow 2 (g28) (mrow 1 (g18) f)))) := hD
    refine lv_aload_n hx hb dX0_addGoose_39 rfl (lv_at hl 0 rfl) ?_
    refine lv_dup hx hb dX0_addGoose_40 rfl ?_
    refine va_get (C := RX0) (T := TX0) (N := 13) (ci := 0) (v := .int (f 0 0)) hx hb hts inX0 hown hT hP 0 rfl rfl 0 (Nat.le_of_ble_eq_true rfl) lk9 (fun _ h => h) rfl dX0_addGoose_41 ?_
    refine lv_iconst (v := (nI 1)) hx hb dX0_addGoose_44 (ic_1) ?_
    refine lv_iadd hx hb dX0_addGoose_45 ?_
    refine va_put (C := RX0) (T := TX0) (N := 13) (ci := 0) (ty := .int) (v := .int ((f 0 0) + (nI 1))) hx hb hts inX0 tyX0 tyX0_ok nmX0 hown hT hP hD hS 0 rfl rfl 0 (Nat.le_of_ble_eq_true rfl) lk9 (fun _ h => h) rfl (by decide +kernel) rfl rfl (Nat.le_of_ble_eq_true rfl) dX0_addGoose_46 (fun H locs hP hD hS => ?_)
    have hP : va_P G.1 vwCl (wX0 G ad (mset 0 0 ((f 0 0) + (nI 1)) (mrow 3 (g38) (mrow 2 (g28) (mrow 1 (g18) f))))) H := hP
    have hD : va_D A (wX0 G ad (mset 0 0 ((f 0 0) + (nI 1)) (mrow 3 (g38) (mrow 2 (g28) (mrow 1 (g18) f))))) := hD
    have hK9 := K0_of hf hK
    exact hRet (mset 0 0 ((f 0 0) + (nI 1)) (mrow 3 (g38) (mrow 2 (g28) (mrow 1 (g18) f)))) _ _ _ _ hK9 dX0_addGoose_49 hP hD hS
  · have hf := if_f hf hc
    have hK9 := K0_of hf hK
    exact hRet f _ _ _ _ hK9 dX0_addGoose_8 hP hD hS
noncomputable def p_X0_held (f : Mem) (x1 : Int32) (x2 : Int32) : Option (Int32) :=
  gd (inb ((x1 * (nI 5)) + x2) 15) <|
  some (f 4 ((x1 * (nI 5)) + x2).toNatClampNeg)
set_option maxHeartbeats 4000000 in
set_option maxRecDepth 100000 in
theorem c_X0_held (l : Launch) (G : Gt) (ad : Nat → Nat) (f : Mem) (x1 : Int32) (x2 : Int32) (r : Int32) (hf : p_X0_held f x1 x2 = some r) (sz : Nat) : Met l yX0_held wsX0_held ({ frames := 1, cells := 0, slots := 0, locals := 12 }) (Pc0 G sz [.ref (ad 0), .int x1, .int x2] (wX0 G ad f)) (Qi0 G (va_A (wX0 G ad f) sz) r (wX0 G ad f)) 0 0 (va_A (wX0 G ad f) sz) := by
  refine metP (Qf := fun A => Qi0 G A r (wX0 G ad f)) cX0_held 3 (some .int) (by decide) rfl (Nat.le_of_ble_eq_true rfl) ?_
  intro p e s m below meth c A ls hC hr hlocks hin hE hA hsz hP hD hS hl
  generalize hargs : ([.ref (ad 0), .int x1, .int x2] : List Value).toArray = args at hC ⊢
  obtain ⟨hx, hb, hml, hown, hts⟩ := id hC
  have hT : va_K G.1 vwCl (tyL G) s := hE.1
  have hRet : ∀ (r9 : Int32) (H : Heap) (locs : List Loc) (ls : Array Slot) (pc : Nat) (hK9 : r9 = r) (hdg : decode cX0_held pc = .ok (.ireturn, 1)), va_P G.1 vwCl (wX0 G ad f) H → va_D A (wX0 G ad f) → va_S A s.heap H locs → W p l e ({ frames := 1, cells := 0, slots := 0, locals := 12 }) s m args below meth c H locs 0 0 (MQ below (Qi0 G A r (wX0 G ad f)) args s 0 0 A) (F0 m pc ls [.int r9]) := by
    intro r9 H locs ls pc hK9 hdg hP hD hS
    cases hK9
    exact W.iret hx hb hr (fun t ht hW => ⟨⟨r, (), rfl, rfl, by rw [ht]; exact hP, hD⟩, hS.F ht⟩) hS.2.2 hdg hlocks
  generalize MQ below (Qi0 G A r (wX0 G ad f)) args s 0 0 A = Q at hRet ⊢
  have lk31 := hts (.fieldLink RX0 31 "FeatherShares$Flock" "feathers" "[I") (by decide +kernel)
  have inX0 : ∀ w ∈ u_ws RX0 TX0 13, w ∈ wsX0_held := by decide +kernel
  have hl : lv_has ls 3 [(0, .ref (ad 0)), (1, .int x1), (2, .int x2)] := hl
  have hK0 : r = r := rfl
  obtain ⟨res, hres, hK⟩ : ∃ res, p_X0_held f x1 x2 = some res ∧ res = r := ⟨_, hf, rfl⟩
  clear hf
  have hf := hres
  clear hres
  unfold p_X0_held at hf
  refine lv_aload_n hx hb dX0_held_0 rfl (lv_at hl 0 rfl) ?_
  refine va_get (C := RX0) (T := TX0) (N := 13) (ci := 0) (v := .ref (ad 4)) hx hb hts inX0 hown hT hP 0 rfl rfl 6 (Nat.le_of_ble_eq_true rfl) lk31 (fun _ h => h) rfl dX0_held_1 ?_
  refine lv_iload_n hx hb dX0_held_4 rfl (lv_at hl 1 rfl) ?_
  refine lv_iconst (v := (nI 5)) hx hb dX0_held_5 (ic_5) ?_
  refine lv_imul hx hb dX0_held_6 ?_
  refine lv_iload_n hx hb dX0_held_7 rfl (lv_at hl 2 rfl) ?_
  refine lv_iadd hx hb dX0_held_8 ?_
  obtain ⟨hg, hf⟩ := gd_e hf
  refine va_iald (f := f 4) hx hb hT hP 4 0 rfl rfl (inb_e hg) dX0_held_9 ?_
  have hK9 := K0_of hf hK
  exact hRet (f 4 ((x1 * (nI 5)) + x2).toNatClampNeg) _ _ _ _ hK9 dX0_held_10 hP hD hS
noncomputable def p_X0_feathersOf_L4 (f : Mem) (x1 : Int32) (z : Int32 × Int32) : Option ((Int32 × Int32) ⊕ Int32) :=
  match z with
  | (x2, x3) =>
    if (nI 5) ≤ x3 then
      (some (Sum.inr x2))
    else
      (Option.bind (p_X0_held f x1 x3) <| fun r13 =>
       some (Sum.inl ((x2 + r13), (x3 + nI 1))))
noncomputable def p_X0_feathersOf (f : Mem) (x1 : Int32) : Option (Int32) :=
  Option.bind (lp (p_X0_feathersOf_L4 f x1) ((nI 0), (nI 0))) <| fun y2_4 =>
  some y2_4
set_option maxHeartbeats 4000000 in
set_option maxRecDepth 100000 in
theorem c_X0_feathersOf (l : Launch) (G : Gt) (ad : Nat → Nat) (f : Mem) (x1 : Int32) (r : Int32) (hf : p_X0_feathersOf f x1 = some r) (sz : Nat) : Met l yX0_feathersOf wsX0_feathersOf ({ frames := 2, cells := 0, slots := 0, locals := 34 }) (Pc0 G sz [.ref (ad 0), .int x1] (wX0 G ad f)) (Qi0 G (va_A (wX0 G ad f) sz) r (wX0 G ad f)) 0 0 (va_A (wX0 G ad f) sz) := by
  refine metP (Qf := fun A => Qi0 G A r (wX0 G ad f)) cX0_feathersOf 4 (some .int) (by decide) rfl (Nat.le_of_ble_eq_true rfl) ?_
  intro p e s m below meth c A ls hC hr hlocks hin hE hA hsz hP hD hS hl
  generalize hargs : ([.ref (ad 0), .int x1] : List Value).toArray = args at hC ⊢
  obtain ⟨hx, hb, hml, hown, hts⟩ := id hC
  have hT : va_K G.1 vwCl (tyL G) s := hE.1
  have hRet : ∀ (r9 : Int32) (H : Heap) (locs : List Loc) (ls : Array Slot) (pc : Nat) (hK9 : r9 = r) (hdg : decode cX0_feathersOf pc = .ok (.ireturn, 1)), va_P G.1 vwCl (wX0 G ad f) H → va_D A (wX0 G ad f) → va_S A s.heap H locs → W p l e ({ frames := 2, cells := 0, slots := 0, locals := 34 }) s m args below meth c H locs 0 0 (MQ below (Qi0 G A r (wX0 G ad f)) args s 0 0 A) (F0 m pc ls [.int r9]) := by
    intro r9 H locs ls pc hK9 hdg hP hD hS
    cases hK9
    exact W.iret hx hb hr (fun t ht hW => ⟨⟨r, (), rfl, rfl, by rw [ht]; exact hP, hD⟩, hS.F ht⟩) hS.2.2 hdg hlocks
  generalize MQ below (Qi0 G A r (wX0 G ad f)) args s 0 0 A = Q at hRet ⊢
  have hl : lv_has ls 4 [(0, .ref (ad 0)), (1, .int x1)] := hl
  have hK0 : r = r := rfl
  obtain ⟨res, hres, hK⟩ : ∃ res, p_X0_feathersOf f x1 = some res ∧ res = r := ⟨_, hf, rfl⟩
  clear hf
  have hf := hres
  clear hres
  unfold p_X0_feathersOf at hf
  refine lv_iconst (v := (nI 0)) hx hb dX0_feathersOf_0 (ic_0) ?_
  refine lv_istore_n (lv' := [(2, .int (nI 0)), (0, .ref (ad 0)), (1, .int x1)]) hx hb dX0_feathersOf_1 rfl hl (by decide) rfl (fun ls hl => ?_)
  refine lv_iconst (v := (nI 0)) hx hb dX0_feathersOf_2 (ic_0) ?_
  refine lv_istore_n (lv' := [(3, .int (nI 0)), (2, .int (nI 0)), (0, .ref (ad 0)), (1, .int x1)]) hx hb dX0_feathersOf_3 rfl hl (by decide) rfl (fun ls hl => ?_)
  obtain ⟨y2_4, hlp, hf⟩ := bd_e hf
  refine lp_W1 (p_X0_feathersOf_L4 f x1) (fun z => match z with | (x2, x3) => ∀ (H : Heap) (locs : List Loc) (ls : Array Slot), va_P G.1 vwCl (wX0 G ad f) H → va_D A (wX0 G ad f) → va_S A s.heap H locs → lv_has ls 4 [(0, .ref (ad 0)), (1, .int x1), (2, .int x2), (3, .int x3)] → W p l e ({ frames := 2, cells := 0, slots := 0, locals := 34 }) s m args below meth c H locs 0 0 Q (F0 m 4 ls [])) (fun (y2_4 : Int32) => ∀ (H : Heap) (locs : List Loc) (ls : Array Slot), va_P G.1 vwCl (wX0 G ad f) H → va_D A (wX0 G ad f) → va_S A s.heap H locs → lv_has ls 4 [(2, .int y2_4)] → W p l e ({ frames := 2, cells := 0, slots := 0, locals := 34 }) s m args below meth c H locs 0 0 Q (F0 m 24 ls [])) ?_ hlp ?_ _ _ _ hP hD hS (lv_sub hl [2, 3, 1, 0] rfl)
  · clear hlp hf hK hP hD hS hl
    intro K4 hW4 hX4 
    rintro ⟨x2, x3⟩ res hf hK H locs ls hP hD hS hl
    unfold p_X0_feathersOf_L4 at hf
    dsimp only at hf
    refine lv_iload_n hx hb dX0_feathersOf_4 rfl (lv_at hl 3 rfl) ?_
    refine lv_iconst (v := (nI 5)) hx hb dX0_feathersOf_5 (ic_5) ?_
    refine lv_icmp_ge (tgt := 24) hx hb dX0_feathersOf_6 (by decide) (fun hc => ?_) (fun hc => ?_)
    · have hf := if_t hf hc
      have hK9 := K_of hf hK
      have hK9 := hX4 _ hK9
      exact hK9 _ _ _ hP hD hS (lv_sub hl [2] rfl)
    · have hf := if_f hf hc
      refine lv_iload_n hx hb dX0_feathersOf_9 rfl (lv_at hl 2 rfl) ?_
      refine lv_aload_n hx hb dX0_feathersOf_10 rfl (lv_at hl 0 rfl) ?_
      refine lv_iload_n hx hb dX0_feathersOf_11 rfl (lv_at hl 1 rfl) ?_
      refine lv_iload_n hx hb dX0_feathersOf_12 rfl (lv_at hl 3 rfl) ?_
      obtain ⟨r13, hc13, hf⟩ := bd_e hf
      refine cl_i_same (Wd := (wX0 G ad f)) (W' := (wX0 G ad f)) (va_runV (As := [.int x1, .int x3]) (rest := [.int x2]) hC (c_X0_held l G ad f x1 x3 r13 hc13 _) (cwV 2 hts gX0_feathersOf_X0_held rfl rfl rfl (by decide +kernel) ⟨Nat.le_of_ble_eq_true rfl, Nat.le_of_ble_eq_true rfl⟩) ⟨Pc0_blind, va_recv hT hP (q0 := 0) (ci := 0) rfl rfl, fun U hU hW => Pc0_at hE hP hD hU hW⟩ rfl rfl hl.1 rfl (lv_room (Nat.le_of_ble_eq_true rfl)) dX0_feathersOf_13 ⟨Nat.zero_le _, Nat.zero_le _⟩) hS hA hD (fun H locs hP hD hS => ?_)
      refine lv_iadd hx hb dX0_feathersOf_16 ?_
      refine lv_istore_n (lv' := [(2, .int (x2 + r13)), (0, .ref (ad 0)), (1, .int x1), (3, .int x3)]) hx hb dX0_feathersOf_17 rfl hl (by decide) rfl (fun ls hl => ?_)
      refine lv_iinc (v := (x3 + nI 1)) (lv' := [(3, .int (x3 + nI 1)), (2, .int (x2 + r13)), (0, .ref (ad 0)), (1, .int x1)]) hx hb dX0_feathersOf_18 hl (k := 3) rfl (ii_x 1 _) (by decide) rfl (fun ls hl => ?_)
      refine lv_goto (tgt := 4) hx hb dX0_feathersOf_21 (by decide) ?_
      have hK9 := K_of hf hK
      have hK9 := hW4 _ hK9
      exact hK9 _ _ _ hP hD hS (lv_sub hl [2, 3, 1, 0] rfl)
  · try dsimp only at hf
    show ∀ (H : Heap) (locs : List Loc) (ls : Array Slot), va_P G.1 vwCl (wX0 G ad f) H → va_D A (wX0 G ad f) → va_S A s.heap H locs → lv_has ls 4 [(2, .int y2_4)] → W p l e ({ frames := 2, cells := 0, slots := 0, locals := 34 }) s m args below meth c H locs 0 0 Q (F0 m 24 ls [])
    intro H locs ls hP hD hS hl
    refine lv_iload_n hx hb dX0_feathersOf_24 rfl (lv_at hl 0 rfl) ?_
    have hK9 := K0_of hf hK
    exact hRet y2_4 _ _ _ _ hK9 dX0_feathersOf_25 hP hD hS
noncomputable def p_X0_bareGeese_L4 (f : Mem) (z : Int32 × Int32) : Option ((Int32 × Int32) ⊕ Int32) :=
  match z with
  | (x1, x2) =>
    if (f 0 0) ≤ x2 then
      (some (Sum.inr x1))
    else
      (Option.bind (p_X0_feathersOf f x2) <| fun r14 =>
       if r14 = 0 then
         (some (Sum.inl ((x1 ||| ((nI 1) <<< (x2 &&& 31))), (x2 + nI 1))))
       else
         (some (Sum.inl (x1, (x2 + nI 1)))))
noncomputable def p_X0_bareGeese (f : Mem) : Option (Int32) :=
  Option.bind (lp (p_X0_bareGeese_L4 f) ((nI 0), (nI 0))) <| fun y1_4 =>
  some y1_4
set_option maxHeartbeats 4000000 in
set_option maxRecDepth 100000 in
theorem c_X0_bareGeese (l : Launch) (G : Gt) (ad : Nat → Nat) (f : Mem) (r : Int32) (hf : p_X0_bareGeese f = some r) (sz : Nat) : Met l yX0_bareGeese wsX0_bareGeese ({ frames := 3, cells := 0, slots := 0, locals := 57 }) (Pc0 G sz [.ref (ad 0)] (wX0 G ad f)) (Qi0 G (va_A (wX0 G ad f) sz) r (wX0 G ad f)) 0 0 (va_A (wX0 G ad f) sz) := by
  refine metP (Qf := fun A => Qi0 G A r (wX0 G ad f)) cX0_bareGeese 3 (some .int) (by decide) rfl (Nat.le_of_ble_eq_true rfl) ?_
  intro p e s m below meth c A ls hC hr hlocks hin hE hA hsz hP hD hS hl
  generalize hargs : ([.ref (ad 0)] : List Value).toArray = args at hC ⊢
  obtain ⟨hx, hb, hml, hown, hts⟩ := id hC
  have hT : va_K G.1 vwCl (tyL G) s := hE.1
  have hRet : ∀ (r9 : Int32) (H : Heap) (locs : List Loc) (ls : Array Slot) (pc : Nat) (hK9 : r9 = r) (hdg : decode cX0_bareGeese pc = .ok (.ireturn, 1)), va_P G.1 vwCl (wX0 G ad f) H → va_D A (wX0 G ad f) → va_S A s.heap H locs → W p l e ({ frames := 3, cells := 0, slots := 0, locals := 57 }) s m args below meth c H locs 0 0 (MQ below (Qi0 G A r (wX0 G ad f)) args s 0 0 A) (F0 m pc ls [.int r9]) := by
    intro r9 H locs ls pc hK9 hdg hP hD hS
    cases hK9
    exact W.iret hx hb hr (fun t ht hW => ⟨⟨r, (), rfl, rfl, by rw [ht]; exact hP, hD⟩, hS.F ht⟩) hS.2.2 hdg hlocks
  generalize MQ below (Qi0 G A r (wX0 G ad f)) args s 0 0 A = Q at hRet ⊢
  have lk9 := hts (.fieldLink RX0 9 "FeatherShares$Flock" "geese" "I") (by decide +kernel)
  have inX0 : ∀ w ∈ u_ws RX0 TX0 13, w ∈ wsX0_bareGeese := by decide +kernel
  have hl : lv_has ls 3 [(0, .ref (ad 0))] := hl
  have hK0 : r = r := rfl
  obtain ⟨res, hres, hK⟩ : ∃ res, p_X0_bareGeese f = some res ∧ res = r := ⟨_, hf, rfl⟩
  clear hf
  have hf := hres
  clear hres
  unfold p_X0_bareGeese at hf
  refine lv_iconst (v := (nI 0)) hx hb dX0_bareGeese_0 (ic_0) ?_
  refine lv_istore_n (lv' := [(1, .int (nI 0)), (0, .ref (ad 0))]) hx hb dX0_bareGeese_1 rfl hl (by decide) rfl (fun ls hl => ?_)
  refine lv_iconst (v := (nI 0)) hx hb dX0_bareGeese_2 (ic_0) ?_
  refine lv_istore_n (lv' := [(2, .int (nI 0)), (1, .int (nI 0)), (0, .ref (ad 0))]) hx hb dX0_bareGeese_3 rfl hl (by decide) rfl (fun ls hl => ?_)
  obtain ⟨y1_4, hlp, hf⟩ := bd_e hf
  refine lp_W1 (p_X0_bareGeese_L4 f) (fun z => match z with | (x1, x2) => ∀ (H : Heap) (locs : List Loc) (ls : Array Slot), va_P G.1 vwCl (wX0 G ad f) H → va_D A (wX0 G ad f) → va_S A s.heap H locs → lv_has ls 3 [(0, .ref (ad 0)), (1, .int x1), (2, .int x2)] → W p l e ({ frames := 3, cells := 0, slots := 0, locals := 57 }) s m args below meth c H locs 0 0 Q (F0 m 4 ls [])) (fun (y1_4 : Int32) => ∀ (H : Heap) (locs : List Loc) (ls : Array Slot), va_P G.1 vwCl (wX0 G ad f) H → va_D A (wX0 G ad f) → va_S A s.heap H locs → lv_has ls 3 [(1, .int y1_4)] → W p l e ({ frames := 3, cells := 0, slots := 0, locals := 57 }) s m args below meth c H locs 0 0 Q (F0 m 32 ls [])) ?_ hlp ?_ _ _ _ hP hD hS (lv_sub hl [2, 1, 0] rfl)
  · clear hlp hf hK hP hD hS hl
    intro K4 hW4 hX4 
    rintro ⟨x1, x2⟩ res hf hK H locs ls hP hD hS hl
    unfold p_X0_bareGeese_L4 at hf
    dsimp only at hf
    refine lv_iload_n hx hb dX0_bareGeese_4 rfl (lv_at hl 2 rfl) ?_
    refine lv_aload_n hx hb dX0_bareGeese_5 rfl (lv_at hl 0 rfl) ?_
    refine va_get (C := RX0) (T := TX0) (N := 13) (ci := 0) (v := .int (f 0 0)) hx hb hts inX0 hown hT hP 0 rfl rfl 0 (Nat.le_of_ble_eq_true rfl) lk9 (fun _ h => h) rfl dX0_bareGeese_6 ?_
    refine lv_icmp_ge (tgt := 32) hx hb dX0_bareGeese_9 (by decide) (fun hc => ?_) (fun hc => ?_)
    · have hf := if_t hf hc
      have hK9 := K_of hf hK
      have hK9 := hX4 _ hK9
      exact hK9 _ _ _ hP hD hS (lv_sub hl [1] rfl)
    · have hf := if_f hf hc
      refine lv_aload_n hx hb dX0_bareGeese_12 rfl (lv_at hl 0 rfl) ?_
      refine lv_iload_n hx hb dX0_bareGeese_13 rfl (lv_at hl 2 rfl) ?_
      obtain ⟨r14, hc14, hf⟩ := bd_e hf
      refine cl_i_same (Wd := (wX0 G ad f)) (W' := (wX0 G ad f)) (va_runV (As := [.int x2]) (rest := []) hC (c_X0_feathersOf l G ad f x2 r14 hc14 _) (cwV 1 hts gX0_bareGeese_X0_feathersOf rfl rfl rfl (by decide +kernel) ⟨Nat.le_of_ble_eq_true rfl, Nat.le_of_ble_eq_true rfl⟩) ⟨Pc0_blind, va_recv hT hP (q0 := 0) (ci := 0) rfl rfl, fun U hU hW => Pc0_at hE hP hD hU hW⟩ rfl rfl hl.1 rfl (lv_room (Nat.le_of_ble_eq_true rfl)) dX0_bareGeese_14 ⟨Nat.zero_le _, Nat.zero_le _⟩) hS hA hD (fun H locs hP hD hS => ?_)
      refine lv_if_ne (tgt := 26) hx hb dX0_bareGeese_17 (by decide) (fun hc => ?_) (fun hc => ?_)
      · have hf := if_f hf hc
        refine lv_iinc (v := (x2 + nI 1)) (lv' := [(2, .int (x2 + nI 1)), (0, .ref (ad 0)), (1, .int x1)]) hx hb dX0_bareGeese_26 hl (k := 2) rfl (ii_x 1 _) (by decide) rfl (fun ls hl => ?_)
        refine lv_goto (tgt := 4) hx hb dX0_bareGeese_29 (by decide) ?_
        have hK9 := K_of hf hK
        have hK9 := hW4 _ hK9
        exact hK9 _ _ _ hP hD hS (lv_sub hl [1, 2, 0] rfl)
      · have hf := if_t hf hc
        refine lv_iload_n hx hb dX0_bareGeese_20 rfl (lv_at hl 1 rfl) ?_
        refine lv_iconst (v := (nI 1)) hx hb dX0_bareGeese_21 (ic_1) ?_
        refine lv_iload_n hx hb dX0_bareGeese_22 rfl (lv_at hl 2 rfl) ?_
        refine lv_ishl hx hb dX0_bareGeese_23 ?_
        refine lv_ior hx hb dX0_bareGeese_24 ?_
        refine lv_istore_n (lv' := [(1, .int (x1 ||| ((nI 1) <<< (x2 &&& 31)))), (0, .ref (ad 0)), (2, .int x2)]) hx hb dX0_bareGeese_25 rfl hl (by decide) rfl (fun ls hl => ?_)
        refine lv_iinc (v := (x2 + nI 1)) (lv' := [(2, .int (x2 + nI 1)), (1, .int (x1 ||| ((nI 1) <<< (x2 &&& 31)))), (0, .ref (ad 0))]) hx hb dX0_bareGeese_26 hl (k := 2) rfl (ii_x 1 _) (by decide) rfl (fun ls hl => ?_)
        refine lv_goto (tgt := 4) hx hb dX0_bareGeese_29 (by decide) ?_
        have hK9 := K_of hf hK
        have hK9 := hW4 _ hK9
        exact hK9 _ _ _ hP hD hS (lv_sub hl [2, 1, 0] rfl)
  · try dsimp only at hf
    show ∀ (H : Heap) (locs : List Loc) (ls : Array Slot), va_P G.1 vwCl (wX0 G ad f) H → va_D A (wX0 G ad f) → va_S A s.heap H locs → lv_has ls 3 [(1, .int y1_4)] → W p l e ({ frames := 3, cells := 0, slots := 0, locals := 57 }) s m args below meth c H locs 0 0 Q (F0 m 32 ls [])
    intro H locs ls hP hD hS hl
    refine lv_iload_n hx hb dX0_bareGeese_32 rfl (lv_at hl 0 rfl) ?_
    have hK9 := K0_of hf hK
    exact hRet y1_4 _ _ _ _ hK9 dX0_bareGeese_33 hP hD hS
noncomputable def p_X0_eggOwner_L4 (f : Mem) (x1 : Int32) (z : Int32 × Int32) : Option ((Int32 × Int32) ⊕ Int32) :=
  match z with
  | (x2, x3) =>
    if (nI 5) ≤ x3 then
      (some (Sum.inr x2))
    else
      (Option.bind (p_X0_held f x1 x3) <| fun r12 =>
       Option.bind (p_X0_held f x1 x2) <| fun r18 =>
       if r12 ≤ r18 then
         (some (Sum.inl (x2, (x3 + nI 1))))
       else
         (some (Sum.inl (x3, (x3 + nI 1)))))
noncomputable def p_X0_eggOwner (f : Mem) (x1 : Int32) : Option (Int32) :=
  Option.bind (lp (p_X0_eggOwner_L4 f x1) ((nI 0), (nI 1))) <| fun y2_4 =>
  Option.bind (p_X0_held f x1 y2_4) <| fun r35 =>
  if r35 = 0 then
    (some (-4 : Int32))
  else
    (gd (inb x1 3) <|
     Option.bind (p_X0_held f x1 (f 2 x1.toNatClampNeg)) <| fun r52 =>
     Option.bind (p_X0_held f x1 y2_4) <| fun r58 =>
     if r52 = r58 then
       (gd (inb x1 3) <|
        some (f 2 x1.toNatClampNeg))
     else
       (some y2_4))
set_option maxHeartbeats 4000000 in
set_option maxRecDepth 100000 in
theorem c_X0_eggOwner (l : Launch) (G : Gt) (ad : Nat → Nat) (f : Mem) (x1 : Int32) (r : Int32) (hf : p_X0_eggOwner f x1 = some r) (sz : Nat) : Met l yX0_eggOwner wsX0_eggOwner ({ frames := 2, cells := 0, slots := 0, locals := 34 }) (Pc0 G sz [.ref (ad 0), .int x1] (wX0 G ad f)) (Qi0 G (va_A (wX0 G ad f) sz) r (wX0 G ad f)) 0 0 (va_A (wX0 G ad f) sz) := by
  refine metP (Qf := fun A => Qi0 G A r (wX0 G ad f)) cX0_eggOwner 4 (some .int) (by decide) rfl (Nat.le_of_ble_eq_true rfl) ?_
  intro p e s m below meth c A ls hC hr hlocks hin hE hA hsz hP hD hS hl
  generalize hargs : ([.ref (ad 0), .int x1] : List Value).toArray = args at hC ⊢
  obtain ⟨hx, hb, hml, hown, hts⟩ := id hC
  have hT : va_K G.1 vwCl (tyL G) s := hE.1
  have hRet : ∀ (r9 : Int32) (H : Heap) (locs : List Loc) (ls : Array Slot) (pc : Nat) (hK9 : r9 = r) (hdg : decode cX0_eggOwner pc = .ok (.ireturn, 1)), va_P G.1 vwCl (wX0 G ad f) H → va_D A (wX0 G ad f) → va_S A s.heap H locs → W p l e ({ frames := 2, cells := 0, slots := 0, locals := 34 }) s m args below meth c H locs 0 0 (MQ below (Qi0 G A r (wX0 G ad f)) args s 0 0 A) (F0 m pc ls [.int r9]) := by
    intro r9 H locs ls pc hK9 hdg hP hD hS
    cases hK9
    exact W.iret hx hb hr (fun t ht hW => ⟨⟨r, (), rfl, rfl, by rw [ht]; exact hP, hD⟩, hS.F ht⟩) hS.2.2 hdg hlocks
  generalize MQ below (Qi0 G A r (wX0 G ad f)) args s 0 0 A = Q at hRet ⊢
  have lk25 := hts (.fieldLink RX0 25 "FeatherShares$Flock" "skin" "[I") (by decide +kernel)
  have inX0 : ∀ w ∈ u_ws RX0 TX0 13, w ∈ wsX0_eggOwner := by decide +kernel
  have hl : lv_has ls 4 [(0, .ref (ad 0)), (1, .int x1)] := hl
  have hK0 : r = r := rfl
  obtain ⟨res, hres, hK⟩ : ∃ res, p_X0_eggOwner f x1 = some res ∧ res = r := ⟨_, hf, rfl⟩
  clear hf
  have hf := hres
  clear hres
  unfold p_X0_eggOwner at hf
  refine lv_iconst (v := (nI 0)) hx hb dX0_eggOwner_0 (ic_0) ?_
  refine lv_istore_n (lv' := [(2, .int (nI 0)), (0, .ref (ad 0)), (1, .int x1)]) hx hb dX0_eggOwner_1 rfl hl (by decide) rfl (fun ls hl => ?_)
  refine lv_iconst (v := (nI 1)) hx hb dX0_eggOwner_2 (ic_1) ?_
  refine lv_istore_n (lv' := [(3, .int (nI 1)), (2, .int (nI 0)), (0, .ref (ad 0)), (1, .int x1)]) hx hb dX0_eggOwner_3 rfl hl (by decide) rfl (fun ls hl => ?_)
  obtain ⟨y2_4, hlp, hf⟩ := bd_e hf
  refine lp_W1 (p_X0_eggOwner_L4 f x1) (fun z => match z with | (x2, x3) => ∀ (H : Heap) (locs : List Loc) (ls : Array Slot), va_P G.1 vwCl (wX0 G ad f) H → va_D A (wX0 G ad f) → va_S A s.heap H locs → lv_has ls 4 [(0, .ref (ad 0)), (1, .int x1), (2, .int x2), (3, .int x3)] → W p l e ({ frames := 2, cells := 0, slots := 0, locals := 34 }) s m args below meth c H locs 0 0 Q (F0 m 4 ls [])) (fun (y2_4 : Int32) => ∀ (H : Heap) (locs : List Loc) (ls : Array Slot), va_P G.1 vwCl (wX0 G ad f) H → va_D A (wX0 G ad f) → va_S A s.heap H locs → lv_has ls 4 [(0, .ref (ad 0)), (1, .int x1), (2, .int y2_4)] → W p l e ({ frames := 2, cells := 0, slots := 0, locals := 34 }) s m args below meth c H locs 0 0 Q (F0 m 32 ls [])) ?_ hlp ?_ _ _ _ hP hD hS (lv_sub hl [2, 3, 1, 0] rfl)
  · clear hlp hf hK hP hD hS hl
    intro K4 hW4 hX4 
    rintro ⟨x2, x3⟩ res hf hK H locs ls hP hD hS hl
    unfold p_X0_eggOwner_L4 at hf
    dsimp only at hf
    refine lv_iload_n hx hb dX0_eggOwner_4 rfl (lv_at hl 3 rfl) ?_
    refine lv_iconst (v := (nI 5)) hx hb dX0_eggOwner_5 (ic_5) ?_
    refine lv_icmp_ge (tgt := 32) hx hb dX0_eggOwner_6 (by decide) (fun hc => ?_) (fun hc => ?_)
    · have hf := if_t hf hc
      have hK9 := K_of hf hK
      have hK9 := hX4 _ hK9
      exact hK9 _ _ _ hP hD hS (lv_sub hl [0, 1, 2] rfl)
    · have hf := if_f hf hc
      refine lv_aload_n hx hb dX0_eggOwner_9 rfl (lv_at hl 0 rfl) ?_
      refine lv_iload_n hx hb dX0_eggOwner_10 rfl (lv_at hl 1 rfl) ?_
      refine lv_iload_n hx hb dX0_eggOwner_11 rfl (lv_at hl 3 rfl) ?_
      obtain ⟨r12, hc12, hf⟩ := bd_e hf
      refine cl_i_same (Wd := (wX0 G ad f)) (W' := (wX0 G ad f)) (va_runV (As := [.int x1, .int x3]) (rest := []) hC (c_X0_held l G ad f x1 x3 r12 hc12 _) (cwV 2 hts gX0_eggOwner_X0_held rfl rfl rfl (by decide +kernel) ⟨Nat.le_of_ble_eq_true rfl, Nat.le_of_ble_eq_true rfl⟩) ⟨Pc0_blind, va_recv hT hP (q0 := 0) (ci := 0) rfl rfl, fun U hU hW => Pc0_at hE hP hD hU hW⟩ rfl rfl hl.1 rfl (lv_room (Nat.le_of_ble_eq_true rfl)) dX0_eggOwner_12 ⟨Nat.zero_le _, Nat.zero_le _⟩) hS hA hD (fun H locs hP hD hS => ?_)
      refine lv_aload_n hx hb dX0_eggOwner_15 rfl (lv_at hl 0 rfl) ?_
      refine lv_iload_n hx hb dX0_eggOwner_16 rfl (lv_at hl 1 rfl) ?_
      refine lv_iload_n hx hb dX0_eggOwner_17 rfl (lv_at hl 2 rfl) ?_
      obtain ⟨r18, hc18, hf⟩ := bd_e hf
      refine cl_i_same (Wd := (wX0 G ad f)) (W' := (wX0 G ad f)) (va_runV (As := [.int x1, .int x2]) (rest := [.int r12]) hC (c_X0_held l G ad f x1 x2 r18 hc18 _) (cwV 2 hts gX0_eggOwner_X0_held rfl rfl rfl (by decide +kernel) ⟨Nat.le_of_ble_eq_true rfl, Nat.le_of_ble_eq_true rfl⟩) ⟨Pc0_blind, va_recv hT hP (q0 := 0) (ci := 0) rfl rfl, fun U hU hW => Pc0_at hE hP hD hU hW⟩ rfl rfl hl.1 rfl (lv_room (Nat.le_of_ble_eq_true rfl)) dX0_eggOwner_18 ⟨Nat.zero_le _, Nat.zero_le _⟩) hS hA hD (fun H locs hP hD hS => ?_)
      refine lv_icmp_le (tgt := 26) hx hb dX0_eggOwner_21 (by decide) (fun hc => ?_) (fun hc => ?_)
      · have hf := if_t hf hc
        refine lv_iinc (v := (x3 + nI 1)) (lv' := [(3, .int (x3 + nI 1)), (0, .ref (ad 0)), (1, .int x1), (2, .int x2)]) hx hb dX0_eggOwner_26 hl (k := 3) rfl (ii_x 1 _) (by decide) rfl (fun ls hl => ?_)
        refine lv_goto (tgt := 4) hx hb dX0_eggOwner_29 (by decide) ?_
        have hK9 := K_of hf hK
        have hK9 := hW4 _ hK9
        exact hK9 _ _ _ hP hD hS (lv_sub hl [1, 2, 3, 0] rfl)
      · have hf := if_f hf hc
        refine lv_iload_n hx hb dX0_eggOwner_24 rfl (lv_at hl 3 rfl) ?_
        refine lv_istore_n (lv' := [(2, .int x3), (0, .ref (ad 0)), (1, .int x1), (3, .int x3)]) hx hb dX0_eggOwner_25 rfl hl (by decide) rfl (fun ls hl => ?_)
        refine lv_iinc (v := (x3 + nI 1)) (lv' := [(3, .int (x3 + nI 1)), (2, .int x3), (0, .ref (ad 0)), (1, .int x1)]) hx hb dX0_eggOwner_26 hl (k := 3) rfl (ii_x 1 _) (by decide) rfl (fun ls hl => ?_)
        refine lv_goto (tgt := 4) hx hb dX0_eggOwner_29 (by decide) ?_
        have hK9 := K_of hf hK
        have hK9 := hW4 _ hK9
        exact hK9 _ _ _ hP hD hS (lv_sub hl [2, 3, 1, 0] rfl)
  · try dsimp only at hf
    show ∀ (H : Heap) (locs : List Loc) (ls : Array Slot), va_P G.1 vwCl (wX0 G ad f) H → va_D A (wX0 G ad f) → va_S A s.heap H locs → lv_has ls 4 [(0, .ref (ad 0)), (1, .int x1), (2, .int y2_4)] → W p l e ({ frames := 2, cells := 0, slots := 0, locals := 34 }) s m args below meth c H locs 0 0 Q (F0 m 32 ls [])
    intro H locs ls hP hD hS hl
    refine lv_aload_n hx hb dX0_eggOwner_32 rfl (lv_at hl 0 rfl) ?_
    refine lv_iload_n hx hb dX0_eggOwner_33 rfl (lv_at hl 1 rfl) ?_
    refine lv_iload_n hx hb dX0_eggOwner_34 rfl (lv_at hl 2 rfl) ?_
    obtain ⟨r35, hc35, hf⟩ := bd_e hf
    refine cl_i_same (Wd := (wX0 G ad f)) (W' := (wX0 G ad f)) (va_runV (As := [.int x1, .int y2_4]) (rest := []) hC (c_X0_held l G ad f x1 y2_4 r35 hc35 _) (cwV 2 hts gX0_eggOwner_X0_held rfl rfl rfl (by decide +kernel) ⟨Nat.le_of_ble_eq_true rfl, Nat.le_of_ble_eq_true rfl⟩) ⟨Pc0_blind, va_recv hT hP (q0 := 0) (ci := 0) rfl rfl, fun U hU hW => Pc0_at hE hP hD hU hW⟩ rfl rfl hl.1 rfl (lv_room (Nat.le_of_ble_eq_true rfl)) dX0_eggOwner_35 ⟨Nat.zero_le _, Nat.zero_le _⟩) hS hA hD (fun H locs hP hD hS => ?_)
    refine lv_if_ne (tgt := 44) hx hb dX0_eggOwner_38 (by decide) (fun hc => ?_) (fun hc => ?_)
    · have hf := if_f hf hc
      refine lv_aload_n hx hb dX0_eggOwner_44 rfl (lv_at hl 0 rfl) ?_
      refine lv_iload_n hx hb dX0_eggOwner_45 rfl (lv_at hl 1 rfl) ?_
      refine lv_aload_n hx hb dX0_eggOwner_46 rfl (lv_at hl 0 rfl) ?_
      refine va_get (C := RX0) (T := TX0) (N := 13) (ci := 0) (v := .ref (ad 2)) hx hb hts inX0 hown hT hP 0 rfl rfl 4 (Nat.le_of_ble_eq_true rfl) lk25 (fun _ h => h) rfl dX0_eggOwner_47 ?_
      refine lv_iload_n hx hb dX0_eggOwner_50 rfl (lv_at hl 1 rfl) ?_
      obtain ⟨hg, hf⟩ := gd_e hf
      refine va_iald (f := f 2) hx hb hT hP 2 0 rfl rfl (inb_e hg) dX0_eggOwner_51 ?_
      obtain ⟨r52, hc52, hf⟩ := bd_e hf
      refine cl_i_same (Wd := (wX0 G ad f)) (W' := (wX0 G ad f)) (va_runV (As := [.int x1, .int (f 2 x1.toNatClampNeg)]) (rest := []) hC (c_X0_held l G ad f x1 (f 2 x1.toNatClampNeg) r52 hc52 _) (cwV 2 hts gX0_eggOwner_X0_held rfl rfl rfl (by decide +kernel) ⟨Nat.le_of_ble_eq_true rfl, Nat.le_of_ble_eq_true rfl⟩) ⟨Pc0_blind, va_recv hT hP (q0 := 0) (ci := 0) rfl rfl, fun U hU hW => Pc0_at hE hP hD hU hW⟩ rfl rfl hl.1 rfl (lv_room (Nat.le_of_ble_eq_true rfl)) dX0_eggOwner_52 ⟨Nat.zero_le _, Nat.zero_le _⟩) hS hA hD (fun H locs hP hD hS => ?_)
      refine lv_aload_n hx hb dX0_eggOwner_55 rfl (lv_at hl 0 rfl) ?_
      refine lv_iload_n hx hb dX0_eggOwner_56 rfl (lv_at hl 1 rfl) ?_
      refine lv_iload_n hx hb dX0_eggOwner_57 rfl (lv_at hl 2 rfl) ?_
      obtain ⟨r58, hc58, hf⟩ := bd_e hf
      refine cl_i_same (Wd := (wX0 G ad f)) (W' := (wX0 G ad f)) (va_runV (As := [.int x1, .int y2_4]) (rest := [.int r52]) hC (c_X0_held l G ad f x1 y2_4 r58 hc58 _) (cwV 2 hts gX0_eggOwner_X0_held rfl rfl rfl (by decide +kernel) ⟨Nat.le_of_ble_eq_true rfl, Nat.le_of_ble_eq_true rfl⟩) ⟨Pc0_blind, va_recv hT hP (q0 := 0) (ci := 0) rfl rfl, fun U hU hW => Pc0_at hE hP hD hU hW⟩ rfl rfl hl.1 rfl (lv_room (Nat.le_of_ble_eq_true rfl)) dX0_eggOwner_58 ⟨Nat.zero_le _, Nat.zero_le _⟩) hS hA hD (fun H locs hP hD hS => ?_)
      refine lv_icmp_ne (tgt := 73) hx hb dX0_eggOwner_61 (by decide) (fun hc => ?_) (fun hc => ?_)
      · have hf := if_f hf hc
        refine lv_iload_n hx hb dX0_eggOwner_73 rfl (lv_at hl 2 rfl) ?_
        have hK9 := K0_of hf hK
        exact hRet y2_4 _ _ _ _ hK9 dX0_eggOwner_74 hP hD hS
      · have hf := if_t hf hc
        refine lv_aload_n hx hb dX0_eggOwner_64 rfl (lv_at hl 0 rfl) ?_
        refine va_get (C := RX0) (T := TX0) (N := 13) (ci := 0) (v := .ref (ad 2)) hx hb hts inX0 hown hT hP 0 rfl rfl 4 (Nat.le_of_ble_eq_true rfl) lk25 (fun _ h => h) rfl dX0_eggOwner_65 ?_
        refine lv_iload_n hx hb dX0_eggOwner_68 rfl (lv_at hl 1 rfl) ?_
        obtain ⟨hg, hf⟩ := gd_e hf
        refine va_iald (f := f 2) hx hb hT hP 2 0 rfl rfl (inb_e hg) dX0_eggOwner_69 ?_
        refine lv_goto (tgt := 74) hx hb dX0_eggOwner_70 (by decide) ?_
        have hK9 := K0_of hf hK
        exact hRet (f 2 x1.toNatClampNeg) _ _ _ _ hK9 dX0_eggOwner_74 hP hD hS
    · have hf := if_t hf hc
      refine lv_bipush (v := (-4 : Int32)) hx hb dX0_eggOwner_41 (bi_m4) ?_
      have hK9 := K0_of hf hK
      exact hRet (-4 : Int32) _ _ _ _ hK9 dX0_eggOwner_43 hP hD hS
noncomputable def p_X0_geeseWithEggOf_L4 (f : Mem) (x1 : Int32) (z : Int32 × Int32) : Option ((Int32 × Int32) ⊕ Int32) :=
  match z with
  | (x2, x3) =>
    if (f 0 0) ≤ x3 then
      (some (Sum.inr x2))
    else
      (Option.bind (p_X0_eggOwner f x3) <| fun r14 =>
       if r14 = x1 then
         (some (Sum.inl ((x2 ||| ((nI 1) <<< (x3 &&& 31))), (x3 + nI 1))))
       else
         (some (Sum.inl (x2, (x3 + nI 1)))))
noncomputable def p_X0_geeseWithEggOf (f : Mem) (x1 : Int32) : Option (Int32) :=
  Option.bind (lp (p_X0_geeseWithEggOf_L4 f x1) ((nI 0), (nI 0))) <| fun y2_4 =>
  some y2_4
set_option maxHeartbeats 4000000 in
set_option maxRecDepth 100000 in
theorem c_X0_geeseWithEggOf (l : Launch) (G : Gt) (ad : Nat → Nat) (f : Mem) (x1 : Int32) (r : Int32) (hf : p_X0_geeseWithEggOf f x1 = some r) (sz : Nat) : Met l yX0_geeseWithEggOf wsX0_geeseWithEggOf ({ frames := 3, cells := 0, slots := 0, locals := 57 }) (Pc0 G sz [.ref (ad 0), .int x1] (wX0 G ad f)) (Qi0 G (va_A (wX0 G ad f) sz) r (wX0 G ad f)) 0 0 (va_A (wX0 G ad f) sz) := by
  refine metP (Qf := fun A => Qi0 G A r (wX0 G ad f)) cX0_geeseWithEggOf 4 (some .int) (by decide) rfl (Nat.le_of_ble_eq_true rfl) ?_
  intro p e s m below meth c A ls hC hr hlocks hin hE hA hsz hP hD hS hl
  generalize hargs : ([.ref (ad 0), .int x1] : List Value).toArray = args at hC ⊢
  obtain ⟨hx, hb, hml, hown, hts⟩ := id hC
  have hT : va_K G.1 vwCl (tyL G) s := hE.1
  have hRet : ∀ (r9 : Int32) (H : Heap) (locs : List Loc) (ls : Array Slot) (pc : Nat) (hK9 : r9 = r) (hdg : decode cX0_geeseWithEggOf pc = .ok (.ireturn, 1)), va_P G.1 vwCl (wX0 G ad f) H → va_D A (wX0 G ad f) → va_S A s.heap H locs → W p l e ({ frames := 3, cells := 0, slots := 0, locals := 57 }) s m args below meth c H locs 0 0 (MQ below (Qi0 G A r (wX0 G ad f)) args s 0 0 A) (F0 m pc ls [.int r9]) := by
    intro r9 H locs ls pc hK9 hdg hP hD hS
    cases hK9
    exact W.iret hx hb hr (fun t ht hW => ⟨⟨r, (), rfl, rfl, by rw [ht]; exact hP, hD⟩, hS.F ht⟩) hS.2.2 hdg hlocks
  generalize MQ below (Qi0 G A r (wX0 G ad f)) args s 0 0 A = Q at hRet ⊢
  have lk9 := hts (.fieldLink RX0 9 "FeatherShares$Flock" "geese" "I") (by decide +kernel)
  have inX0 : ∀ w ∈ u_ws RX0 TX0 13, w ∈ wsX0_geeseWithEggOf := by decide +kernel
  have hl : lv_has ls 4 [(0, .ref (ad 0)), (1, .int x1)] := hl
  have hK0 : r = r := rfl
  obtain ⟨res, hres, hK⟩ : ∃ res, p_X0_geeseWithEggOf f x1 = some res ∧ res = r := ⟨_, hf, rfl⟩
  clear hf
  have hf := hres
  clear hres
  unfold p_X0_geeseWithEggOf at hf
  refine lv_iconst (v := (nI 0)) hx hb dX0_geeseWithEggOf_0 (ic_0) ?_
  refine lv_istore_n (lv' := [(2, .int (nI 0)), (0, .ref (ad 0)), (1, .int x1)]) hx hb dX0_geeseWithEggOf_1 rfl hl (by decide) rfl (fun ls hl => ?_)
  refine lv_iconst (v := (nI 0)) hx hb dX0_geeseWithEggOf_2 (ic_0) ?_
  refine lv_istore_n (lv' := [(3, .int (nI 0)), (2, .int (nI 0)), (0, .ref (ad 0)), (1, .int x1)]) hx hb dX0_geeseWithEggOf_3 rfl hl (by decide) rfl (fun ls hl => ?_)
  obtain ⟨y2_4, hlp, hf⟩ := bd_e hf
  refine lp_W1 (p_X0_geeseWithEggOf_L4 f x1) (fun z => match z with | (x2, x3) => ∀ (H : Heap) (locs : List Loc) (ls : Array Slot), va_P G.1 vwCl (wX0 G ad f) H → va_D A (wX0 G ad f) → va_S A s.heap H locs → lv_has ls 4 [(0, .ref (ad 0)), (1, .int x1), (2, .int x2), (3, .int x3)] → W p l e ({ frames := 3, cells := 0, slots := 0, locals := 57 }) s m args below meth c H locs 0 0 Q (F0 m 4 ls [])) (fun (y2_4 : Int32) => ∀ (H : Heap) (locs : List Loc) (ls : Array Slot), va_P G.1 vwCl (wX0 G ad f) H → va_D A (wX0 G ad f) → va_S A s.heap H locs → lv_has ls 4 [(2, .int y2_4)] → W p l e ({ frames := 3, cells := 0, slots := 0, locals := 57 }) s m args below meth c H locs 0 0 Q (F0 m 33 ls [])) ?_ hlp ?_ _ _ _ hP hD hS (lv_sub hl [2, 3, 1, 0] rfl)
  · clear hlp hf hK hP hD hS hl
    intro K4 hW4 hX4 
    rintro ⟨x2, x3⟩ res hf hK H locs ls hP hD hS hl
    unfold p_X0_geeseWithEggOf_L4 at hf
    dsimp only at hf
    refine lv_iload_n hx hb dX0_geeseWithEggOf_4 rfl (lv_at hl 3 rfl) ?_
    refine lv_aload_n hx hb dX0_geeseWithEggOf_5 rfl (lv_at hl 0 rfl) ?_
    refine va_get (C := RX0) (T := TX0) (N := 13) (ci := 0) (v := .int (f 0 0)) hx hb hts inX0 hown hT hP 0 rfl rfl 0 (Nat.le_of_ble_eq_true rfl) lk9 (fun _ h => h) rfl dX0_geeseWithEggOf_6 ?_
    refine lv_icmp_ge (tgt := 33) hx hb dX0_geeseWithEggOf_9 (by decide) (fun hc => ?_) (fun hc => ?_)
    · have hf := if_t hf hc
      have hK9 := K_of hf hK
      have hK9 := hX4 _ hK9
      exact hK9 _ _ _ hP hD hS (lv_sub hl [2] rfl)
    · have hf := if_f hf hc
      refine lv_aload_n hx hb dX0_geeseWithEggOf_12 rfl (lv_at hl 0 rfl) ?_
      refine lv_iload_n hx hb dX0_geeseWithEggOf_13 rfl (lv_at hl 3 rfl) ?_
      obtain ⟨r14, hc14, hf⟩ := bd_e hf
      refine cl_i_same (Wd := (wX0 G ad f)) (W' := (wX0 G ad f)) (va_runV (As := [.int x3]) (rest := []) hC (c_X0_eggOwner l G ad f x3 r14 hc14 _) (cwV 1 hts gX0_geeseWithEggOf_X0_eggOwner rfl rfl rfl (by decide +kernel) ⟨Nat.le_of_ble_eq_true rfl, Nat.le_of_ble_eq_true rfl⟩) ⟨Pc0_blind, va_recv hT hP (q0 := 0) (ci := 0) rfl rfl, fun U hU hW => Pc0_at hE hP hD hU hW⟩ rfl rfl hl.1 rfl (lv_room (Nat.le_of_ble_eq_true rfl)) dX0_geeseWithEggOf_14 ⟨Nat.zero_le _, Nat.zero_le _⟩) hS hA hD (fun H locs hP hD hS => ?_)
      refine lv_iload_n hx hb dX0_geeseWithEggOf_17 rfl (lv_at hl 1 rfl) ?_
      refine lv_icmp_ne (tgt := 27) hx hb dX0_geeseWithEggOf_18 (by decide) (fun hc => ?_) (fun hc => ?_)
      · have hf := if_f hf hc
        refine lv_iinc (v := (x3 + nI 1)) (lv' := [(3, .int (x3 + nI 1)), (0, .ref (ad 0)), (1, .int x1), (2, .int x2)]) hx hb dX0_geeseWithEggOf_27 hl (k := 3) rfl (ii_x 1 _) (by decide) rfl (fun ls hl => ?_)
        refine lv_goto (tgt := 4) hx hb dX0_geeseWithEggOf_30 (by decide) ?_
        have hK9 := K_of hf hK
        have hK9 := hW4 _ hK9
        exact hK9 _ _ _ hP hD hS (lv_sub hl [1, 2, 3, 0] rfl)
      · have hf := if_t hf hc
        refine lv_iload_n hx hb dX0_geeseWithEggOf_21 rfl (lv_at hl 2 rfl) ?_
        refine lv_iconst (v := (nI 1)) hx hb dX0_geeseWithEggOf_22 (ic_1) ?_
        refine lv_iload_n hx hb dX0_geeseWithEggOf_23 rfl (lv_at hl 3 rfl) ?_
        refine lv_ishl hx hb dX0_geeseWithEggOf_24 ?_
        refine lv_ior hx hb dX0_geeseWithEggOf_25 ?_
        refine lv_istore_n (lv' := [(2, .int (x2 ||| ((nI 1) <<< (x3 &&& 31)))), (0, .ref (ad 0)), (1, .int x1), (3, .int x3)]) hx hb dX0_geeseWithEggOf_26 rfl hl (by decide) rfl (fun ls hl => ?_)
        refine lv_iinc (v := (x3 + nI 1)) (lv' := [(3, .int (x3 + nI 1)), (2, .int (x2 ||| ((nI 1) <<< (x3 &&& 31)))), (0, .ref (ad 0)), (1, .int x1)]) hx hb dX0_geeseWithEggOf_27 hl (k := 3) rfl (ii_x 1 _) (by decide) rfl (fun ls hl => ?_)
        refine lv_goto (tgt := 4) hx hb dX0_geeseWithEggOf_30 (by decide) ?_
        have hK9 := K_of hf hK
        have hK9 := hW4 _ hK9
        exact hK9 _ _ _ hP hD hS (lv_sub hl [2, 3, 1, 0] rfl)
  · try dsimp only at hf
    show ∀ (H : Heap) (locs : List Loc) (ls : Array Slot), va_P G.1 vwCl (wX0 G ad f) H → va_D A (wX0 G ad f) → va_S A s.heap H locs → lv_has ls 4 [(2, .int y2_4)] → W p l e ({ frames := 3, cells := 0, slots := 0, locals := 57 }) s m args below meth c H locs 0 0 Q (F0 m 33 ls [])
    intro H locs ls hP hD hS hl
    refine lv_iload_n hx hb dX0_geeseWithEggOf_33 rfl (lv_at hl 0 rfl) ?_
    have hK9 := K0_of hf hK
    exact hRet y2_4 _ _ _ _ hK9 dX0_geeseWithEggOf_34 hP hD hS
noncomputable def p_X0_worth_L9 (f : Mem) (x1 : Int32) (z : Int32 × Int32) : Option ((Int32 × Int32) ⊕ Int32) :=
  match z with
  | (x2, x3) =>
    if (f 0 0) ≤ x3 then
      (some (Sum.inr x2))
    else
      (Option.bind (p_X0_held f x3 x1) <| fun r21 =>
       gd (inb x3 3) <|
       some (Sum.inl ((x2 + (r21 * (f 3 x3.toNatClampNeg))), (x3 + nI 1))))
noncomputable def p_X0_worth (f : Mem) (x1 : Int32) : Option (Int32) :=
  gd (inb x1 5) <|
  Option.bind (lp (p_X0_worth_L9 f x1) ((f 5 x1.toNatClampNeg), (nI 0))) <| fun y2_9 =>
  some y2_9
set_option maxHeartbeats 4000000 in
set_option maxRecDepth 100000 in
theorem c_X0_worth (l : Launch) (G : Gt) (ad : Nat → Nat) (f : Mem) (x1 : Int32) (r : Int32) (hf : p_X0_worth f x1 = some r) (sz : Nat) : Met l yX0_worth wsX0_worth ({ frames := 2, cells := 0, slots := 0, locals := 34 }) (Pc0 G sz [.ref (ad 0), .int x1] (wX0 G ad f)) (Qi0 G (va_A (wX0 G ad f) sz) r (wX0 G ad f)) 0 0 (va_A (wX0 G ad f) sz) := by
  refine metP (Qf := fun A => Qi0 G A r (wX0 G ad f)) cX0_worth 4 (some .int) (by decide) rfl (Nat.le_of_ble_eq_true rfl) ?_
  intro p e s m below meth c A ls hC hr hlocks hin hE hA hsz hP hD hS hl
  generalize hargs : ([.ref (ad 0), .int x1] : List Value).toArray = args at hC ⊢
  obtain ⟨hx, hb, hml, hown, hts⟩ := id hC
  have hT : va_K G.1 vwCl (tyL G) s := hE.1
  have hRet : ∀ (r9 : Int32) (H : Heap) (locs : List Loc) (ls : Array Slot) (pc : Nat) (hK9 : r9 = r) (hdg : decode cX0_worth pc = .ok (.ireturn, 1)), va_P G.1 vwCl (wX0 G ad f) H → va_D A (wX0 G ad f) → va_S A s.heap H locs → W p l e ({ frames := 2, cells := 0, slots := 0, locals := 34 }) s m args below meth c H locs 0 0 (MQ below (Qi0 G A r (wX0 G ad f)) args s 0 0 A) (F0 m pc ls [.int r9]) := by
    intro r9 H locs ls pc hK9 hdg hP hD hS
    cases hK9
    exact W.iret hx hb hr (fun t ht hW => ⟨⟨r, (), rfl, rfl, by rw [ht]; exact hP, hD⟩, hS.F ht⟩) hS.2.2 hdg hlocks
  generalize MQ below (Qi0 G A r (wX0 G ad f)) args s 0 0 A = Q at hRet ⊢
  have lk34 := hts (.fieldLink RX0 34 "FeatherShares$Flock" "money" "[I") (by decide +kernel)
  have inX0 : ∀ w ∈ u_ws RX0 TX0 13, w ∈ wsX0_worth := by decide +kernel
  have lk9 := hts (.fieldLink RX0 9 "FeatherShares$Flock" "geese" "I") (by decide +kernel)
  have lk28 := hts (.fieldLink RX0 28 "FeatherShares$Flock" "price" "[I") (by decide +kernel)
  have hl : lv_has ls 4 [(0, .ref (ad 0)), (1, .int x1)] := hl
  have hK0 : r = r := rfl
  obtain ⟨res, hres, hK⟩ : ∃ res, p_X0_worth f x1 = some res ∧ res = r := ⟨_, hf, rfl⟩
  clear hf
  have hf := hres
  clear hres
  unfold p_X0_worth at hf
  refine lv_aload_n hx hb dX0_worth_0 rfl (lv_at hl 0 rfl) ?_
  refine va_get (C := RX0) (T := TX0) (N := 13) (ci := 0) (v := .ref (ad 5)) hx hb hts inX0 hown hT hP 0 rfl rfl 7 (Nat.le_of_ble_eq_true rfl) lk34 (fun _ h => h) rfl dX0_worth_1 ?_
  refine lv_iload_n hx hb dX0_worth_4 rfl (lv_at hl 1 rfl) ?_
  obtain ⟨hg, hf⟩ := gd_e hf
  refine va_iald (f := f 5) hx hb hT hP 5 0 rfl rfl (inb_e hg) dX0_worth_5 ?_
  refine lv_istore_n (lv' := [(2, .int (f 5 x1.toNatClampNeg)), (0, .ref (ad 0)), (1, .int x1)]) hx hb dX0_worth_6 rfl hl (by decide) rfl (fun ls hl => ?_)
  refine lv_iconst (v := (nI 0)) hx hb dX0_worth_7 (ic_0) ?_
  refine lv_istore_n (lv' := [(3, .int (nI 0)), (2, .int (f 5 x1.toNatClampNeg)), (0, .ref (ad 0)), (1, .int x1)]) hx hb dX0_worth_8 rfl hl (by decide) rfl (fun ls hl => ?_)
  obtain ⟨y2_9, hlp, hf⟩ := bd_e hf
  refine lp_W1 (p_X0_worth_L9 f x1) (fun z => match z with | (x2, x3) => ∀ (H : Heap) (locs : List Loc) (ls : Array Slot), va_P G.1 vwCl (wX0 G ad f) H → va_D A (wX0 G ad f) → va_S A s.heap H locs → lv_has ls 4 [(0, .ref (ad 0)), (1, .int x1), (2, .int x2), (3, .int x3)] → W p l e ({ frames := 2, cells := 0, slots := 0, locals := 34 }) s m args below meth c H locs 0 0 Q (F0 m 9 ls [])) (fun (y2_9 : Int32) => ∀ (H : Heap) (locs : List Loc) (ls : Array Slot), va_P G.1 vwCl (wX0 G ad f) H → va_D A (wX0 G ad f) → va_S A s.heap H locs → lv_has ls 4 [(2, .int y2_9)] → W p l e ({ frames := 2, cells := 0, slots := 0, locals := 34 }) s m args below meth c H locs 0 0 Q (F0 m 39 ls [])) ?_ hlp ?_ _ _ _ hP hD hS (lv_sub hl [2, 3, 1, 0] rfl)
  · clear hlp hf hK hP hD hS hl
    intro K9 hW9 hX9 
    rintro ⟨x2, x3⟩ res hf hK H locs ls hP hD hS hl
    unfold p_X0_worth_L9 at hf
    dsimp only at hf
    refine lv_iload_n hx hb dX0_worth_9 rfl (lv_at hl 3 rfl) ?_
    refine lv_aload_n hx hb dX0_worth_10 rfl (lv_at hl 0 rfl) ?_
    refine va_get (C := RX0) (T := TX0) (N := 13) (ci := 0) (v := .int (f 0 0)) hx hb hts inX0 hown hT hP 0 rfl rfl 0 (Nat.le_of_ble_eq_true rfl) lk9 (fun _ h => h) rfl dX0_worth_11 ?_
    refine lv_icmp_ge (tgt := 39) hx hb dX0_worth_14 (by decide) (fun hc => ?_) (fun hc => ?_)
    · have hf := if_t hf hc
      have hK9 := K_of hf hK
      have hK9 := hX9 _ hK9
      exact hK9 _ _ _ hP hD hS (lv_sub hl [2] rfl)
    · have hf := if_f hf hc
      refine lv_iload_n hx hb dX0_worth_17 rfl (lv_at hl 2 rfl) ?_
      refine lv_aload_n hx hb dX0_worth_18 rfl (lv_at hl 0 rfl) ?_
      refine lv_iload_n hx hb dX0_worth_19 rfl (lv_at hl 3 rfl) ?_
      refine lv_iload_n hx hb dX0_worth_20 rfl (lv_at hl 1 rfl) ?_
      obtain ⟨r21, hc21, hf⟩ := bd_e hf
      refine cl_i_same (Wd := (wX0 G ad f)) (W' := (wX0 G ad f)) (va_runV (As := [.int x3, .int x1]) (rest := [.int x2]) hC (c_X0_held l G ad f x3 x1 r21 hc21 _) (cwV 2 hts gX0_worth_X0_held rfl rfl rfl (by decide +kernel) ⟨Nat.le_of_ble_eq_true rfl, Nat.le_of_ble_eq_true rfl⟩) ⟨Pc0_blind, va_recv hT hP (q0 := 0) (ci := 0) rfl rfl, fun U hU hW => Pc0_at hE hP hD hU hW⟩ rfl rfl hl.1 rfl (lv_room (Nat.le_of_ble_eq_true rfl)) dX0_worth_21 ⟨Nat.zero_le _, Nat.zero_le _⟩) hS hA hD (fun H locs hP hD hS => ?_)
      refine lv_aload_n hx hb dX0_worth_24 rfl (lv_at hl 0 rfl) ?_
      refine va_get (C := RX0) (T := TX0) (N := 13) (ci := 0) (v := .ref (ad 3)) hx hb hts inX0 hown hT hP 0 rfl rfl 5 (Nat.le_of_ble_eq_true rfl) lk28 (fun _ h => h) rfl dX0_worth_25 ?_
      refine lv_iload_n hx hb dX0_worth_28 rfl (lv_at hl 3 rfl) ?_
      obtain ⟨hg, hf⟩ := gd_e hf
      refine va_iald (f := f 3) hx hb hT hP 3 0 rfl rfl (inb_e hg) dX0_worth_29 ?_
      refine lv_imul hx hb dX0_worth_30 ?_
      refine lv_iadd hx hb dX0_worth_31 ?_
      refine lv_istore_n (lv' := [(2, .int (x2 + (r21 * (f 3 x3.toNatClampNeg)))), (0, .ref (ad 0)), (1, .int x1), (3, .int x3)]) hx hb dX0_worth_32 rfl hl (by decide) rfl (fun ls hl => ?_)
      refine lv_iinc (v := (x3 + nI 1)) (lv' := [(3, .int (x3 + nI 1)), (2, .int (x2 + (r21 * (f 3 x3.toNatClampNeg)))), (0, .ref (ad 0)), (1, .int x1)]) hx hb dX0_worth_33 hl (k := 3) rfl (ii_x 1 _) (by decide) rfl (fun ls hl => ?_)
      refine lv_goto (tgt := 9) hx hb dX0_worth_36 (by decide) ?_
      have hK9 := K_of hf hK
      have hK9 := hW9 _ hK9
      exact hK9 _ _ _ hP hD hS (lv_sub hl [2, 3, 1, 0] rfl)
  · try dsimp only at hf
    show ∀ (H : Heap) (locs : List Loc) (ls : Array Slot), va_P G.1 vwCl (wX0 G ad f) H → va_D A (wX0 G ad f) → va_S A s.heap H locs → lv_has ls 4 [(2, .int y2_9)] → W p l e ({ frames := 2, cells := 0, slots := 0, locals := 34 }) s m args below meth c H locs 0 0 Q (F0 m 39 ls [])
    intro H locs ls hP hD hS hl
    refine lv_iload_n hx hb dX0_worth_39 rfl (lv_at hl 0 rfl) ?_
    have hK9 := K0_of hf hK
    exact hRet y2_9 _ _ _ _ hK9 dX0_worth_40 hP hD hS
noncomputable def p_X0_ofOwner (f : Mem) (x1 : Int32) (x2 : Int32) : Option (Int32) :=
  if x2 = (nI 0) then
    (gd (inb x1 5) <|
     some (f 5 x1.toNatClampNeg))
  else if x2 = (nI 1) then
    (gd (inb x1 5) <|
     some (f 6 x1.toNatClampNeg))
  else if x2 = (nI 2) then
    (Option.bind (p_X0_worth f x1) <| fun r48 =>
     some r48)
  else if x2 = (nI 3) then
    (Option.bind (p_X0_geeseWithEggOf f x1) <| fun r54 =>
     some r54)
  else
    (some (-1 : Int32))
set_option maxHeartbeats 4000000 in
set_option maxRecDepth 100000 in
theorem c_X0_ofOwner (l : Launch) (G : Gt) (ad : Nat → Nat) (f : Mem) (x1 : Int32) (x2 : Int32) (r : Int32) (hf : p_X0_ofOwner f x1 x2 = some r) (sz : Nat) : Met l yX0_ofOwner wsX0_ofOwner ({ frames := 4, cells := 0, slots := 0, locals := 80 }) (Pc0 G sz [.ref (ad 0), .int x1, .int x2] (wX0 G ad f)) (Qi0 G (va_A (wX0 G ad f) sz) r (wX0 G ad f)) 0 0 (va_A (wX0 G ad f) sz) := by
  refine metP (Qf := fun A => Qi0 G A r (wX0 G ad f)) cX0_ofOwner 3 (some .int) (by decide) rfl (Nat.le_of_ble_eq_true rfl) ?_
  intro p e s m below meth c A ls hC hr hlocks hin hE hA hsz hP hD hS hl
  generalize hargs : ([.ref (ad 0), .int x1, .int x2] : List Value).toArray = args at hC ⊢
  obtain ⟨hx, hb, hml, hown, hts⟩ := id hC
  have hT : va_K G.1 vwCl (tyL G) s := hE.1
  have hRet : ∀ (r9 : Int32) (H : Heap) (locs : List Loc) (ls : Array Slot) (pc : Nat) (hK9 : r9 = r) (hdg : decode cX0_ofOwner pc = .ok (.ireturn, 1)), va_P G.1 vwCl (wX0 G ad f) H → va_D A (wX0 G ad f) → va_S A s.heap H locs → W p l e ({ frames := 4, cells := 0, slots := 0, locals := 80 }) s m args below meth c H locs 0 0 (MQ below (Qi0 G A r (wX0 G ad f)) args s 0 0 A) (F0 m pc ls [.int r9]) := by
    intro r9 H locs ls pc hK9 hdg hP hD hS
    cases hK9
    exact W.iret hx hb hr (fun t ht hW => ⟨⟨r, (), rfl, rfl, by rw [ht]; exact hP, hD⟩, hS.F ht⟩) hS.2.2 hdg hlocks
  generalize MQ below (Qi0 G A r (wX0 G ad f)) args s 0 0 A = Q at hRet ⊢
  have lk34 := hts (.fieldLink RX0 34 "FeatherShares$Flock" "money" "[I") (by decide +kernel)
  have inX0 : ∀ w ∈ u_ws RX0 TX0 13, w ∈ wsX0_ofOwner := by decide +kernel
  have lk37 := hts (.fieldLink RX0 37 "FeatherShares$Flock" "eggsHad" "[I") (by decide +kernel)
  have hl : lv_has ls 3 [(0, .ref (ad 0)), (1, .int x1), (2, .int x2)] := hl
  have hK0 : r = r := rfl
  obtain ⟨res, hres, hK⟩ : ∃ res, p_X0_ofOwner f x1 x2 = some res ∧ res = r := ⟨_, hf, rfl⟩
  clear hf
  have hf := hres
  clear hres
  unfold p_X0_ofOwner at hf
  refine lv_iload_n hx hb dX0_ofOwner_0 rfl (lv_at hl 2 rfl) ?_
  by_cases hs0 : x2 = (nI 0)
  · have hf := if_t hf hs0
    refine lv_tableIn (tgt := 32) hx hb dX0_ofOwner_1 (by rw [hs0]; decide) (by rw [hs0]; decide) (by rw [hs0]; rfl) (by decide) ?_
    refine lv_aload_n hx hb dX0_ofOwner_32 rfl (lv_at hl 0 rfl) ?_
    refine va_get (C := RX0) (T := TX0) (N := 13) (ci := 0) (v := .ref (ad 5)) hx hb hts inX0 hown hT hP 0 rfl rfl 7 (Nat.le_of_ble_eq_true rfl) lk34 (fun _ h => h) rfl dX0_ofOwner_33 ?_
    refine lv_iload_n hx hb dX0_ofOwner_36 rfl (lv_at hl 1 rfl) ?_
    obtain ⟨hg, hf⟩ := gd_e hf
    refine va_iald (f := f 5) hx hb hT hP 5 0 rfl rfl (inb_e hg) dX0_ofOwner_37 ?_
    have hK9 := K0_of hf hK
    exact hRet (f 5 x1.toNatClampNeg) _ _ _ _ hK9 dX0_ofOwner_38 hP hD hS
  have hf := if_f hf hs0
  by_cases hs1 : x2 = (nI 1)
  · have hf := if_t hf hs1
    refine lv_tableIn (tgt := 39) hx hb dX0_ofOwner_1 (by rw [hs1]; decide) (by rw [hs1]; decide) (by rw [hs1]; rfl) (by decide) ?_
    refine lv_aload_n hx hb dX0_ofOwner_39 rfl (lv_at hl 0 rfl) ?_
    refine va_get (C := RX0) (T := TX0) (N := 13) (ci := 0) (v := .ref (ad 6)) hx hb hts inX0 hown hT hP 0 rfl rfl 8 (Nat.le_of_ble_eq_true rfl) lk37 (fun _ h => h) rfl dX0_ofOwner_40 ?_
    refine lv_iload_n hx hb dX0_ofOwner_43 rfl (lv_at hl 1 rfl) ?_
    obtain ⟨hg, hf⟩ := gd_e hf
    refine va_iald (f := f 6) hx hb hT hP 6 0 rfl rfl (inb_e hg) dX0_ofOwner_44 ?_
    have hK9 := K0_of hf hK
    exact hRet (f 6 x1.toNatClampNeg) _ _ _ _ hK9 dX0_ofOwner_45 hP hD hS
  have hf := if_f hf hs1
  by_cases hs2 : x2 = (nI 2)
  · have hf := if_t hf hs2
    refine lv_tableIn (tgt := 46) hx hb dX0_ofOwner_1 (by rw [hs2]; decide) (by rw [hs2]; decide) (by rw [hs2]; rfl) (by decide) ?_
    refine lv_aload_n hx hb dX0_ofOwner_46 rfl (lv_at hl 0 rfl) ?_
    refine lv_iload_n hx hb dX0_ofOwner_47 rfl (lv_at hl 1 rfl) ?_
    obtain ⟨r48, hc48, hf⟩ := bd_e hf
    refine cl_i_same (Wd := (wX0 G ad f)) (W' := (wX0 G ad f)) (va_runV (As := [.int x1]) (rest := []) hC (c_X0_worth l G ad f x1 r48 hc48 _) (cwV 1 hts gX0_ofOwner_X0_worth rfl rfl rfl (by decide +kernel) ⟨Nat.le_of_ble_eq_true rfl, Nat.le_of_ble_eq_true rfl⟩) ⟨Pc0_blind, va_recv hT hP (q0 := 0) (ci := 0) rfl rfl, fun U hU hW => Pc0_at hE hP hD hU hW⟩ rfl rfl hl.1 rfl (lv_room (Nat.le_of_ble_eq_true rfl)) dX0_ofOwner_48 ⟨Nat.zero_le _, Nat.zero_le _⟩) hS hA hD (fun H locs hP hD hS => ?_)
    have hK9 := K0_of hf hK
    exact hRet r48 _ _ _ _ hK9 dX0_ofOwner_51 hP hD hS
  have hf := if_f hf hs2
  by_cases hs3 : x2 = (nI 3)
  · have hf := if_t hf hs3
    refine lv_tableIn (tgt := 52) hx hb dX0_ofOwner_1 (by rw [hs3]; decide) (by rw [hs3]; decide) (by rw [hs3]; rfl) (by decide) ?_
    refine lv_aload_n hx hb dX0_ofOwner_52 rfl (lv_at hl 0 rfl) ?_
    refine lv_iload_n hx hb dX0_ofOwner_53 rfl (lv_at hl 1 rfl) ?_
    obtain ⟨r54, hc54, hf⟩ := bd_e hf
    refine cl_i_same (Wd := (wX0 G ad f)) (W' := (wX0 G ad f)) (va_runV (As := [.int x1]) (rest := []) hC (c_X0_geeseWithEggOf l G ad f x1 r54 hc54 _) (cwV 1 hts gX0_ofOwner_X0_geeseWithEggOf rfl rfl rfl (by decide +kernel) ⟨Nat.le_of_ble_eq_true rfl, Nat.le_of_ble_eq_true rfl⟩) ⟨Pc0_blind, va_recv hT hP (q0 := 0) (ci := 0) rfl rfl, fun U hU hW => Pc0_at hE hP hD hU hW⟩ rfl rfl hl.1 rfl (lv_room (Nat.le_of_ble_eq_true rfl)) dX0_ofOwner_54 ⟨Nat.zero_le _, Nat.zero_le _⟩) hS hA hD (fun H locs hP hD hS => ?_)
    have hK9 := K0_of hf hK
    exact hRet r54 _ _ _ _ hK9 dX0_ofOwner_57 hP hD hS
  have hf := if_f hf hs3
  have hout : x2.toInt < 0 ∨ 3 < x2.toInt := by
    have t0 := ne_int hs0 (by decide)
    have t1 := ne_int hs1 (by decide)
    have t2 := ne_int hs2 (by decide)
    have t3 := ne_int hs3 (by decide)
    omega
  refine lv_tableOut (tgt := 58) hx hb dX0_ofOwner_1 hout (by decide) ?_
  refine lv_iconst (v := (-1 : Int32)) hx hb dX0_ofOwner_58 (ic_m1) ?_
  have hK9 := K0_of hf hK
  exact hRet (-1 : Int32) _ _ _ _ hK9 dX0_ofOwner_59 hP hD hS
noncomputable def p_X6_isOwner (x0 : Int32) : Option (Int32) :=
  Option.bind (p_X6_isWithin x0 (nI 0) (nI 4)) <| fun r3 =>
  some r3
set_option maxHeartbeats 4000000 in
set_option maxRecDepth 100000 in
theorem c_X6_isOwner (l : Launch) (G : Gt)  (x0 : Int32) (r : Int32) (hf : p_X6_isOwner x0 = some r) (sz : Nat) : Met l yX6_isOwner wsX6_isOwner ({ frames := 2, cells := 0, slots := 0, locals := 34 }) (Pc0 G sz [.int x0] ([] : va_W)) (Qz0 G (va_A ([] : va_W) sz) r ([] : va_W)) 0 0 (va_A ([] : va_W) sz) := by
  refine metP (Qf := fun A => Qz0 G A r ([] : va_W)) cX6_isOwner 1 (some .boolean) (by decide) rfl (Nat.le_of_ble_eq_true rfl) ?_
  intro p e s m below meth c A ls hC hr hlocks hin hE hA hsz hP hD hS hl
  generalize hargs : ([.int x0] : List Value).toArray = args at hC ⊢
  obtain ⟨hx, hb, hml, hown, hts⟩ := id hC
  have hT : va_K G.1 vwCl (tyL G) s := hE.1
  have hRet : ∀ (r9 : Int32) (H : Heap) (locs : List Loc) (ls : Array Slot) (pc : Nat) (hK9 : r9 = r) (hn9 : narrow .boolean (.int r9) = .int r9) (hdg : decode cX6_isOwner pc = .ok (.ireturn, 1)), va_P G.1 vwCl ([] : va_W) H → va_D A ([] : va_W) → va_S A s.heap H locs → W p l e ({ frames := 2, cells := 0, slots := 0, locals := 34 }) s m args below meth c H locs 0 0 (MQ below (Qz0 G A r ([] : va_W)) args s 0 0 A) (F0 m pc ls [.int r9]) := by
    intro r9 H locs ls pc hK9 hn9 hdg hP hD hS
    cases hK9
    exact W.zret hx hb hr hn9 (fun t ht hW => ⟨⟨r, (), rfl, ⟨rfl, hn9⟩, by rw [ht]; exact hP, hD⟩, hS.F ht⟩) hS.2.2 hdg hlocks
  generalize MQ below (Qz0 G A r ([] : va_W)) args s 0 0 A = Q at hRet ⊢
  have hl : lv_has ls 1 [(0, .int x0)] := hl
  have hK0 : r = r := rfl
  obtain ⟨res, hres, hK⟩ : ∃ res, p_X6_isOwner x0 = some res ∧ res = r := ⟨_, hf, rfl⟩
  clear hf
  have hf := hres
  clear hres
  unfold p_X6_isOwner at hf
  refine lv_iload_n hx hb dX6_isOwner_0 rfl (lv_at hl 0 rfl) ?_
  refine lv_iconst (v := (nI 0)) hx hb dX6_isOwner_1 (ic_0) ?_
  refine lv_iconst (v := (nI 4)) hx hb dX6_isOwner_2 (ic_4) ?_
  obtain ⟨r3, hc3, hf⟩ := bd_e hf
  refine cl_z_same (Wd := ([] : va_W)) (W' := ([] : va_W)) (va_runS (As := [.int x0, .int (nI 0), .int (nI 4)]) (rest := []) hC (c_X6_isWithin l G x0 (nI 0) (nI 4) r3 hc3 _) (va_cwS 3 hts gX6_isOwner_X6_isWithin rfl rfl rfl (by decide +kernel) ⟨Nat.le_of_ble_eq_true rfl, Nat.le_of_ble_eq_true rfl⟩) ⟨Pc0_blind, fun U hU hW => Pc0_at hE hP hD hU hW⟩ rfl rfl hl.1 rfl (lv_room (Nat.le_of_ble_eq_true rfl)) dX6_isOwner_3 ⟨Nat.zero_le _, Nat.zero_le _⟩) hS hA hD (fun H locs hn3 hP hD hS => ?_)
  have hK9 := K0_of hf hK
  exact hRet r3 _ _ _ _ hK9 hn3 dX6_isOwner_6 hP hD hS
noncomputable def p_X0_isTrade (f : Mem) (x1 : Int32) (x2 : Int32) (x3 : Int32) (x4 : Int32) : Option (Int32) :=
  Option.bind (p_X6_isOwner x1) <| fun r1 =>
  if r1 = 0 then
    (some (nI 0))
  else
    (Option.bind (p_X6_isOwner x2) <| fun r8 =>
     if r8 = 0 then
       (some (nI 0))
     else
       (if x1 = x2 then
          (some (nI 0))
        else
          (Option.bind (p_X0_hasGoose f x3) <| fun r21 =>
           if r21 = 0 then
             (some (nI 0))
           else
             (Option.bind (p_X6_isWithin x4 (nI 1) (nI 9)) <| fun r32 =>
              if r32 = 0 then
                (some (nI 0))
              else
                (some (nI 1))))))
set_option maxHeartbeats 4000000 in
set_option maxRecDepth 100000 in
theorem c_X0_isTrade (l : Launch) (G : Gt) (ad : Nat → Nat) (f : Mem) (x1 : Int32) (x2 : Int32) (x3 : Int32) (x4 : Int32) (r : Int32) (hf : p_X0_isTrade f x1 x2 x3 x4 = some r) (sz : Nat) : Met l yX0_isTrade wsX0_isTrade ({ frames := 3, cells := 0, slots := 0, locals := 55 }) (Pc0 G sz [.ref (ad 0), .int x1, .int x2, .int x3, .int x4] (wX0 G ad f)) (Qz0 G (va_A (wX0 G ad f) sz) r (wX0 G ad f)) 0 0 (va_A (wX0 G ad f) sz) := by
  refine metP (Qf := fun A => Qz0 G A r (wX0 G ad f)) cX0_isTrade 5 (some .boolean) (by decide) rfl (Nat.le_of_ble_eq_true rfl) ?_
  intro p e s m below meth c A ls hC hr hlocks hin hE hA hsz hP hD hS hl
  generalize hargs : ([.ref (ad 0), .int x1, .int x2, .int x3, .int x4] : List Value).toArray = args at hC ⊢
  obtain ⟨hx, hb, hml, hown, hts⟩ := id hC
  have hT : va_K G.1 vwCl (tyL G) s := hE.1
  have hRet : ∀ (r9 : Int32) (H : Heap) (locs : List Loc) (ls : Array Slot) (pc : Nat) (hK9 : r9 = r) (hn9 : narrow .boolean (.int r9) = .int r9) (hdg : decode cX0_isTrade pc = .ok (.ireturn, 1)), va_P G.1 vwCl (wX0 G ad f) H → va_D A (wX0 G ad f) → va_S A s.heap H locs → W p l e ({ frames := 3, cells := 0, slots := 0, locals := 55 }) s m args below meth c H locs 0 0 (MQ below (Qz0 G A r (wX0 G ad f)) args s 0 0 A) (F0 m pc ls [.int r9]) := by
    intro r9 H locs ls pc hK9 hn9 hdg hP hD hS
    cases hK9
    exact W.zret hx hb hr hn9 (fun t ht hW => ⟨⟨r, (), rfl, ⟨rfl, hn9⟩, by rw [ht]; exact hP, hD⟩, hS.F ht⟩) hS.2.2 hdg hlocks
  generalize MQ below (Qz0 G A r (wX0 G ad f)) args s 0 0 A = Q at hRet ⊢
  have hl : lv_has ls 5 [(0, .ref (ad 0)), (1, .int x1), (2, .int x2), (3, .int x3), (4, .int x4)] := hl
  have hK0 : r = r := rfl
  obtain ⟨res, hres, hK⟩ : ∃ res, p_X0_isTrade f x1 x2 x3 x4 = some res ∧ res = r := ⟨_, hf, rfl⟩
  clear hf
  have hf := hres
  clear hres
  unfold p_X0_isTrade at hf
  refine lv_iload_n hx hb dX0_isTrade_0 rfl (lv_at hl 1 rfl) ?_
  obtain ⟨r1, hc1, hf⟩ := bd_e hf
  refine cl_z_ro (Wd := (wX0 G ad f)) (Wc := ([] : va_W)) [] rfl (va_runSN (As := [.int x1]) (rest := []) hC (c_X6_isOwner l G x1 r1 hc1 _) ⟨va_cnB 1 hts gX0_isTrade_X6_isOwner_n85 rfl rfl rfl (hE.2.2 (RX0, 85, yX6_isOwner, "FeatherShares") (List.mem_of_getElem? (i := 39) rfl)) (hts (.initialized RX6) (by decide +kernel)) (by decide +kernel) ⟨Nat.le_of_ble_eq_true rfl, Nat.le_of_ble_eq_true rfl⟩, hts (.static yX6_isOwner) (by decide +kernel), trivial⟩ ⟨Pc0_blind, fun U hU hW => Pc0_at (Wd := ([] : va_W)) hE (hP.subm [] rfl) (hD.sub [] (by decide) rfl) hU hW⟩ rfl rfl hl.1 rfl (lv_room (Nat.le_of_ble_eq_true rfl)) dX0_isTrade_1 ⟨Nat.zero_le _, Nat.zero_le _⟩) hS hA hP hD (fun H locs hn1 hP hD hS => ?_)
  refine lv_if_eq (tgt := 42) hx hb dX0_isTrade_4 (by decide) (fun hc => ?_) (fun hc => ?_)
  · have hf := if_t hf hc
    refine lv_iconst (v := (nI 0)) hx hb dX0_isTrade_42 (ic_0) ?_
    have hK9 := K0_of hf hK
    exact hRet (nI 0) _ _ _ _ hK9 rfl dX0_isTrade_43 hP hD hS
  · have hf := if_f hf hc
    refine lv_iload_n hx hb dX0_isTrade_7 rfl (lv_at hl 2 rfl) ?_
    obtain ⟨r8, hc8, hf⟩ := bd_e hf
    refine cl_z_ro (Wd := (wX0 G ad f)) (Wc := ([] : va_W)) [] rfl (va_runSN (As := [.int x2]) (rest := []) hC (c_X6_isOwner l G x2 r8 hc8 _) ⟨va_cnB 1 hts gX0_isTrade_X6_isOwner_n85 rfl rfl rfl (hE.2.2 (RX0, 85, yX6_isOwner, "FeatherShares") (List.mem_of_getElem? (i := 39) rfl)) (hts (.initialized RX6) (by decide +kernel)) (by decide +kernel) ⟨Nat.le_of_ble_eq_true rfl, Nat.le_of_ble_eq_true rfl⟩, hts (.static yX6_isOwner) (by decide +kernel), trivial⟩ ⟨Pc0_blind, fun U hU hW => Pc0_at (Wd := ([] : va_W)) hE (hP.subm [] rfl) (hD.sub [] (by decide) rfl) hU hW⟩ rfl rfl hl.1 rfl (lv_room (Nat.le_of_ble_eq_true rfl)) dX0_isTrade_8 ⟨Nat.zero_le _, Nat.zero_le _⟩) hS hA hP hD (fun H locs hn8 hP hD hS => ?_)
    refine lv_if_eq (tgt := 42) hx hb dX0_isTrade_11 (by decide) (fun hc => ?_) (fun hc => ?_)
    · have hf := if_t hf hc
      refine lv_iconst (v := (nI 0)) hx hb dX0_isTrade_42 (ic_0) ?_
      have hK9 := K0_of hf hK
      exact hRet (nI 0) _ _ _ _ hK9 rfl dX0_isTrade_43 hP hD hS
    · have hf := if_f hf hc
      refine lv_iload_n hx hb dX0_isTrade_14 rfl (lv_at hl 1 rfl) ?_
      refine lv_iload_n hx hb dX0_isTrade_15 rfl (lv_at hl 2 rfl) ?_
      refine lv_icmp_eq (tgt := 42) hx hb dX0_isTrade_16 (by decide) (fun hc => ?_) (fun hc => ?_)
      · have hf := if_t hf hc
        refine lv_iconst (v := (nI 0)) hx hb dX0_isTrade_42 (ic_0) ?_
        have hK9 := K0_of hf hK
        exact hRet (nI 0) _ _ _ _ hK9 rfl dX0_isTrade_43 hP hD hS
      · have hf := if_f hf hc
        refine lv_aload_n hx hb dX0_isTrade_19 rfl (lv_at hl 0 rfl) ?_
        refine lv_iload_n hx hb dX0_isTrade_20 rfl (lv_at hl 3 rfl) ?_
        obtain ⟨r21, hc21, hf⟩ := bd_e hf
        refine cl_z_same (Wd := (wX0 G ad f)) (W' := (wX0 G ad f)) (va_runV (As := [.int x3]) (rest := []) hC (c_X0_hasGoose l G ad f x3 r21 hc21 _) (cwV 1 hts gX0_isTrade_X0_hasGoose rfl rfl rfl (by decide +kernel) ⟨Nat.le_of_ble_eq_true rfl, Nat.le_of_ble_eq_true rfl⟩) ⟨Pc0_blind, va_recv hT hP (q0 := 0) (ci := 0) rfl rfl, fun U hU hW => Pc0_at hE hP hD hU hW⟩ rfl rfl hl.1 rfl (lv_room (Nat.le_of_ble_eq_true rfl)) dX0_isTrade_21 ⟨Nat.zero_le _, Nat.zero_le _⟩) hS hA hD (fun H locs hn21 hP hD hS => ?_)
        refine lv_if_eq (tgt := 42) hx hb dX0_isTrade_24 (by decide) (fun hc => ?_) (fun hc => ?_)
        · have hf := if_t hf hc
          refine lv_iconst (v := (nI 0)) hx hb dX0_isTrade_42 (ic_0) ?_
          have hK9 := K0_of hf hK
          exact hRet (nI 0) _ _ _ _ hK9 rfl dX0_isTrade_43 hP hD hS
        · have hf := if_f hf hc
          refine lv_iload hx hb dX0_isTrade_27 (lv_at hl 4 rfl) ?_
          refine lv_iconst (v := (nI 1)) hx hb dX0_isTrade_29 (ic_1) ?_
          refine lv_bipush (v := (nI 9)) hx hb dX0_isTrade_30 (bi_9) ?_
          obtain ⟨r32, hc32, hf⟩ := bd_e hf
          refine cl_z_ro (Wd := (wX0 G ad f)) (Wc := ([] : va_W)) [] rfl (va_runSN (As := [.int x4, .int (nI 1), .int (nI 9)]) (rest := []) hC (c_X6_isWithin l G x4 (nI 1) (nI 9) r32 hc32 _) ⟨va_cnB 3 hts gX0_isTrade_X6_isWithin_n64 rfl rfl rfl (hE.2.2 (RX0, 64, yX6_isWithin, "FeatherShares") (List.mem_of_getElem? (i := 38) rfl)) (hts (.initialized RX6) (by decide +kernel)) (by decide +kernel) ⟨Nat.le_of_ble_eq_true rfl, Nat.le_of_ble_eq_true rfl⟩, hts (.static yX6_isWithin) (by decide +kernel), trivial⟩ ⟨Pc0_blind, fun U hU hW => Pc0_at (Wd := ([] : va_W)) hE (hP.subm [] rfl) (hD.sub [] (by decide) rfl) hU hW⟩ rfl rfl hl.1 rfl (lv_room (Nat.le_of_ble_eq_true rfl)) dX0_isTrade_32 ⟨Nat.zero_le _, Nat.zero_le _⟩) hS hA hP hD (fun H locs hn32 hP hD hS => ?_)
          refine lv_if_eq (tgt := 42) hx hb dX0_isTrade_35 (by decide) (fun hc => ?_) (fun hc => ?_)
          · have hf := if_t hf hc
            refine lv_iconst (v := (nI 0)) hx hb dX0_isTrade_42 (ic_0) ?_
            have hK9 := K0_of hf hK
            exact hRet (nI 0) _ _ _ _ hK9 rfl dX0_isTrade_43 hP hD hS
          · have hf := if_f hf hc
            refine lv_iconst (v := (nI 1)) hx hb dX0_isTrade_38 (ic_1) ?_
            refine lv_goto (tgt := 43) hx hb dX0_isTrade_39 (by decide) ?_
            have hK9 := K0_of hf hK
            exact hRet (nI 1) _ _ _ _ hK9 rfl dX0_isTrade_43 hP hD hS
noncomputable def p_X0_canPluck (f : Mem) (x1 : Int32) (x2 : Int32) (x3 : Int32) (x4 : Int32) : Option (Int32) :=
  Option.bind (p_X0_held f x3 x2) <| fun r3 =>
  if r3 < x4 then
    (some (nI 0))
  else
    (Option.bind (p_X0_held f x3 x1) <| fun r14 =>
     if (nI 99) < (r14 + x4) then
       (some (nI 0))
     else
       (some (nI 1)))
set_option maxHeartbeats 4000000 in
set_option maxRecDepth 100000 in
theorem c_X0_canPluck (l : Launch) (G : Gt) (ad : Nat → Nat) (f : Mem) (x1 : Int32) (x2 : Int32) (x3 : Int32) (x4 : Int32) (r : Int32) (hf : p_X0_canPluck f x1 x2 x3 x4 = some r) (sz : Nat) : Met l yX0_canPluck wsX0_canPluck ({ frames := 2, cells := 0, slots := 0, locals := 34 }) (Pc0 G sz [.ref (ad 0), .int x1, .int x2, .int x3, .int x4] (wX0 G ad f)) (Qz0 G (va_A (wX0 G ad f) sz) r (wX0 G ad f)) 0 0 (va_A (wX0 G ad f) sz) := by
  refine metP (Qf := fun A => Qz0 G A r (wX0 G ad f)) cX0_canPluck 5 (some .boolean) (by decide) rfl (Nat.le_of_ble_eq_true rfl) ?_
  intro p e s m below meth c A ls hC hr hlocks hin hE hA hsz hP hD hS hl
  generalize hargs : ([.ref (ad 0), .int x1, .int x2, .int x3, .int x4] : List Value).toArray = args at hC ⊢
  obtain ⟨hx, hb, hml, hown, hts⟩ := id hC
  have hT : va_K G.1 vwCl (tyL G) s := hE.1
  have hRet : ∀ (r9 : Int32) (H : Heap) (locs : List Loc) (ls : Array Slot) (pc : Nat) (hK9 : r9 = r) (hn9 : narrow .boolean (.int r9) = .int r9) (hdg : decode cX0_canPluck pc = .ok (.ireturn, 1)), va_P G.1 vwCl (wX0 G ad f) H → va_D A (wX0 G ad f) → va_S A s.heap H locs → W p l e ({ frames := 2, cells := 0, slots := 0, locals := 34 }) s m args below meth c H locs 0 0 (MQ below (Qz0 G A r (wX0 G ad f)) args s 0 0 A) (F0 m pc ls [.int r9]) := by
    intro r9 H locs ls pc hK9 hn9 hdg hP hD hS
    cases hK9
    exact W.zret hx hb hr hn9 (fun t ht hW => ⟨⟨r, (), rfl, ⟨rfl, hn9⟩, by rw [ht]; exact hP, hD⟩, hS.F ht⟩) hS.2.2 hdg hlocks
  generalize MQ below (Qz0 G A r (wX0 G ad f)) args s 0 0 A = Q at hRet ⊢
  have hl : lv_has ls 5 [(0, .ref (ad 0)), (1, .int x1), (2, .int x2), (3, .int x3), (4, .int x4)] := hl
  have hK0 : r = r := rfl
  obtain ⟨res, hres, hK⟩ : ∃ res, p_X0_canPluck f x1 x2 x3 x4 = some res ∧ res = r := ⟨_, hf, rfl⟩
  clear hf
  have hf := hres
  clear hres
  unfold p_X0_canPluck at hf
  refine lv_aload_n hx hb dX0_canPluck_0 rfl (lv_at hl 0 rfl) ?_
  refine lv_iload_n hx hb dX0_canPluck_1 rfl (lv_at hl 3 rfl) ?_
  refine lv_iload_n hx hb dX0_canPluck_2 rfl (lv_at hl 2 rfl) ?_
  obtain ⟨r3, hc3, hf⟩ := bd_e hf
  refine cl_i_same (Wd := (wX0 G ad f)) (W' := (wX0 G ad f)) (va_runV (As := [.int x3, .int x2]) (rest := []) hC (c_X0_held l G ad f x3 x2 r3 hc3 _) (cwV 2 hts gX0_canPluck_X0_held rfl rfl rfl (by decide +kernel) ⟨Nat.le_of_ble_eq_true rfl, Nat.le_of_ble_eq_true rfl⟩) ⟨Pc0_blind, va_recv hT hP (q0 := 0) (ci := 0) rfl rfl, fun U hU hW => Pc0_at hE hP hD hU hW⟩ rfl rfl hl.1 rfl (lv_room (Nat.le_of_ble_eq_true rfl)) dX0_canPluck_3 ⟨Nat.zero_le _, Nat.zero_le _⟩) hS hA hD (fun H locs hP hD hS => ?_)
  refine lv_iload hx hb dX0_canPluck_6 (lv_at hl 4 rfl) ?_
  refine lv_icmp_lt (tgt := 29) hx hb dX0_canPluck_8 (by decide) (fun hc => ?_) (fun hc => ?_)
  · have hf := if_t hf hc
    refine lv_iconst (v := (nI 0)) hx hb dX0_canPluck_29 (ic_0) ?_
    have hK9 := K0_of hf hK
    exact hRet (nI 0) _ _ _ _ hK9 rfl dX0_canPluck_30 hP hD hS
  · have hf := if_f hf hc
    refine lv_aload_n hx hb dX0_canPluck_11 rfl (lv_at hl 0 rfl) ?_
    refine lv_iload_n hx hb dX0_canPluck_12 rfl (lv_at hl 3 rfl) ?_
    refine lv_iload_n hx hb dX0_canPluck_13 rfl (lv_at hl 1 rfl) ?_
    obtain ⟨r14, hc14, hf⟩ := bd_e hf
    refine cl_i_same (Wd := (wX0 G ad f)) (W' := (wX0 G ad f)) (va_runV (As := [.int x3, .int x1]) (rest := []) hC (c_X0_held l G ad f x3 x1 r14 hc14 _) (cwV 2 hts gX0_canPluck_X0_held rfl rfl rfl (by decide +kernel) ⟨Nat.le_of_ble_eq_true rfl, Nat.le_of_ble_eq_true rfl⟩) ⟨Pc0_blind, va_recv hT hP (q0 := 0) (ci := 0) rfl rfl, fun U hU hW => Pc0_at hE hP hD hU hW⟩ rfl rfl hl.1 rfl (lv_room (Nat.le_of_ble_eq_true rfl)) dX0_canPluck_14 ⟨Nat.zero_le _, Nat.zero_le _⟩) hS hA hD (fun H locs hP hD hS => ?_)
    refine lv_iload hx hb dX0_canPluck_17 (lv_at hl 4 rfl) ?_
    refine lv_iadd hx hb dX0_canPluck_19 ?_
    refine lv_bipush (v := (nI 99)) hx hb dX0_canPluck_20 (bi_99) ?_
    refine lv_icmp_gt (tgt := 29) hx hb dX0_canPluck_22 (by decide) (fun hc => ?_) (fun hc => ?_)
    · have hf := if_t hf hc
      refine lv_iconst (v := (nI 0)) hx hb dX0_canPluck_29 (ic_0) ?_
      have hK9 := K0_of hf hK
      exact hRet (nI 0) _ _ _ _ hK9 rfl dX0_canPluck_30 hP hD hS
    · have hf := if_f hf hc
      refine lv_iconst (v := (nI 1)) hx hb dX0_canPluck_25 (ic_1) ?_
      refine lv_goto (tgt := 30) hx hb dX0_canPluck_26 (by decide) ?_
      have hK9 := K0_of hf hK
      exact hRet (nI 1) _ _ _ _ hK9 rfl dX0_canPluck_30 hP hD hS
noncomputable def p_X0_canTrade (f : Mem) (x1 : Int32) (x2 : Int32) (x3 : Int32) (x4 : Int32) : Option (Int32) :=
  gd (inb x3 3) <|
  Option.bind (p_X0_canPluck f x1 x2 x3 x4) <| fun r17 =>
  if r17 = 0 then
    (some (nI 0))
  else
    (gd (inb x1 5) <|
     if (f 5 x1.toNatClampNeg) < (x4 * (f 3 x3.toNatClampNeg)) then
       (some (nI 0))
     else
       (gd (inb x2 5) <|
        if (nI 999) < ((f 5 x2.toNatClampNeg) + (x4 * (f 3 x3.toNatClampNeg))) then
          (some (nI 0))
        else
          (some (nI 1))))
set_option maxHeartbeats 4000000 in
set_option maxRecDepth 100000 in
theorem c_X0_canTrade (l : Launch) (G : Gt) (ad : Nat → Nat) (f : Mem) (x1 : Int32) (x2 : Int32) (x3 : Int32) (x4 : Int32) (r : Int32) (hf : p_X0_canTrade f x1 x2 x3 x4 = some r) (sz : Nat) : Met l yX0_canTrade wsX0_canTrade ({ frames := 3, cells := 0, slots := 0, locals := 58 }) (Pc0 G sz [.ref (ad 0), .int x1, .int x2, .int x3, .int x4] (wX0 G ad f)) (Qz0 G (va_A (wX0 G ad f) sz) r (wX0 G ad f)) 0 0 (va_A (wX0 G ad f) sz) := by
  refine metP (Qf := fun A => Qz0 G A r (wX0 G ad f)) cX0_canTrade 6 (some .boolean) (by decide) rfl (Nat.le_of_ble_eq_true rfl) ?_
  intro p e s m below meth c A ls hC hr hlocks hin hE hA hsz hP hD hS hl
  generalize hargs : ([.ref (ad 0), .int x1, .int x2, .int x3, .int x4] : List Value).toArray = args at hC ⊢
  obtain ⟨hx, hb, hml, hown, hts⟩ := id hC
  have hT : va_K G.1 vwCl (tyL G) s := hE.1
  have hRet : ∀ (r9 : Int32) (H : Heap) (locs : List Loc) (ls : Array Slot) (pc : Nat) (hK9 : r9 = r) (hn9 : narrow .boolean (.int r9) = .int r9) (hdg : decode cX0_canTrade pc = .ok (.ireturn, 1)), va_P G.1 vwCl (wX0 G ad f) H → va_D A (wX0 G ad f) → va_S A s.heap H locs → W p l e ({ frames := 3, cells := 0, slots := 0, locals := 58 }) s m args below meth c H locs 0 0 (MQ below (Qz0 G A r (wX0 G ad f)) args s 0 0 A) (F0 m pc ls [.int r9]) := by
    intro r9 H locs ls pc hK9 hn9 hdg hP hD hS
    cases hK9
    exact W.zret hx hb hr hn9 (fun t ht hW => ⟨⟨r, (), rfl, ⟨rfl, hn9⟩, by rw [ht]; exact hP, hD⟩, hS.F ht⟩) hS.2.2 hdg hlocks
  generalize MQ below (Qz0 G A r (wX0 G ad f)) args s 0 0 A = Q at hRet ⊢
  have lk28 := hts (.fieldLink RX0 28 "FeatherShares$Flock" "price" "[I") (by decide +kernel)
  have inX0 : ∀ w ∈ u_ws RX0 TX0 13, w ∈ wsX0_canTrade := by decide +kernel
  have lk34 := hts (.fieldLink RX0 34 "FeatherShares$Flock" "money" "[I") (by decide +kernel)
  have hl : lv_has ls 6 [(0, .ref (ad 0)), (1, .int x1), (2, .int x2), (3, .int x3), (4, .int x4)] := hl
  have hK0 : r = r := rfl
  obtain ⟨res, hres, hK⟩ : ∃ res, p_X0_canTrade f x1 x2 x3 x4 = some res ∧ res = r := ⟨_, hf, rfl⟩
  clear hf
  have hf := hres
  clear hres
  unfold p_X0_canTrade at hf
  refine lv_iload hx hb dX0_canTrade_0 (lv_at hl 4 rfl) ?_
  refine lv_aload_n hx hb dX0_canTrade_2 rfl (lv_at hl 0 rfl) ?_
  refine va_get (C := RX0) (T := TX0) (N := 13) (ci := 0) (v := .ref (ad 3)) hx hb hts inX0 hown hT hP 0 rfl rfl 5 (Nat.le_of_ble_eq_true rfl) lk28 (fun _ h => h) rfl dX0_canTrade_3 ?_
  refine lv_iload_n hx hb dX0_canTrade_6 rfl (lv_at hl 3 rfl) ?_
  obtain ⟨hg, hf⟩ := gd_e hf
  refine va_iald (f := f 3) hx hb hT hP 3 0 rfl rfl (inb_e hg) dX0_canTrade_7 ?_
  refine lv_imul hx hb dX0_canTrade_8 ?_
  refine lv_istore (lv' := [(5, .int (x4 * (f 3 x3.toNatClampNeg))), (0, .ref (ad 0)), (1, .int x1), (2, .int x2), (3, .int x3), (4, .int x4)]) hx hb dX0_canTrade_9 hl (by decide) rfl (fun ls hl => ?_)
  refine lv_aload_n hx hb dX0_canTrade_11 rfl (lv_at hl 1 rfl) ?_
  refine lv_iload_n hx hb dX0_canTrade_12 rfl (lv_at hl 2 rfl) ?_
  refine lv_iload_n hx hb dX0_canTrade_13 rfl (lv_at hl 3 rfl) ?_
  refine lv_iload_n hx hb dX0_canTrade_14 rfl (lv_at hl 4 rfl) ?_
  refine lv_iload hx hb dX0_canTrade_15 (lv_at hl 5 rfl) ?_
  obtain ⟨r17, hc17, hf⟩ := bd_e hf
  refine cl_z_same (Wd := (wX0 G ad f)) (W' := (wX0 G ad f)) (va_runV (As := [.int x1, .int x2, .int x3, .int x4]) (rest := []) hC (c_X0_canPluck l G ad f x1 x2 x3 x4 r17 hc17 _) (cwV 4 hts gX0_canTrade_X0_canPluck rfl rfl rfl (by decide +kernel) ⟨Nat.le_of_ble_eq_true rfl, Nat.le_of_ble_eq_true rfl⟩) ⟨Pc0_blind, va_recv hT hP (q0 := 0) (ci := 0) rfl rfl, fun U hU hW => Pc0_at hE hP hD hU hW⟩ rfl rfl hl.1 rfl (lv_room (Nat.le_of_ble_eq_true rfl)) dX0_canTrade_17 ⟨Nat.zero_le _, Nat.zero_le _⟩) hS hA hD (fun H locs hn17 hP hD hS => ?_)
  refine lv_if_eq (tgt := 53) hx hb dX0_canTrade_20 (by decide) (fun hc => ?_) (fun hc => ?_)
  · have hf := if_t hf hc
    refine lv_iconst (v := (nI 0)) hx hb dX0_canTrade_53 (ic_0) ?_
    have hK9 := K0_of hf hK
    exact hRet (nI 0) _ _ _ _ hK9 rfl dX0_canTrade_54 hP hD hS
  · have hf := if_f hf hc
    refine lv_aload_n hx hb dX0_canTrade_23 rfl (lv_at hl 1 rfl) ?_
    refine va_get (C := RX0) (T := TX0) (N := 13) (ci := 0) (v := .ref (ad 5)) hx hb hts inX0 hown hT hP 0 rfl rfl 7 (Nat.le_of_ble_eq_true rfl) lk34 (fun _ h => h) rfl dX0_canTrade_24 ?_
    refine lv_iload_n hx hb dX0_canTrade_27 rfl (lv_at hl 2 rfl) ?_
    obtain ⟨hg, hf⟩ := gd_e hf
    refine va_iald (f := f 5) hx hb hT hP 5 0 rfl rfl (inb_e hg) dX0_canTrade_28 ?_
    refine lv_iload hx hb dX0_canTrade_29 (lv_at hl 0 rfl) ?_
    refine lv_icmp_lt (tgt := 53) hx hb dX0_canTrade_31 (by decide) (fun hc => ?_) (fun hc => ?_)
    · have hf := if_t hf hc
      refine lv_iconst (v := (nI 0)) hx hb dX0_canTrade_53 (ic_0) ?_
      have hK9 := K0_of hf hK
      exact hRet (nI 0) _ _ _ _ hK9 rfl dX0_canTrade_54 hP hD hS
    · have hf := if_f hf hc
      refine lv_aload_n hx hb dX0_canTrade_34 rfl (lv_at hl 1 rfl) ?_
      refine va_get (C := RX0) (T := TX0) (N := 13) (ci := 0) (v := .ref (ad 5)) hx hb hts inX0 hown hT hP 0 rfl rfl 7 (Nat.le_of_ble_eq_true rfl) lk34 (fun _ h => h) rfl dX0_canTrade_35 ?_
      refine lv_iload_n hx hb dX0_canTrade_38 rfl (lv_at hl 3 rfl) ?_
      obtain ⟨hg, hf⟩ := gd_e hf
      refine va_iald (f := f 5) hx hb hT hP 5 0 rfl rfl (inb_e hg) dX0_canTrade_39 ?_
      refine lv_iload hx hb dX0_canTrade_40 (lv_at hl 0 rfl) ?_
      refine lv_iadd hx hb dX0_canTrade_42 ?_
      refine lv_sipush (v := (nI 999)) hx hb dX0_canTrade_43 (si_999) ?_
      refine lv_icmp_gt (tgt := 53) hx hb dX0_canTrade_46 (by decide) (fun hc => ?_) (fun hc => ?_)
      · have hf := if_t hf hc
        refine lv_iconst (v := (nI 0)) hx hb dX0_canTrade_53 (ic_0) ?_
        have hK9 := K0_of hf hK
        exact hRet (nI 0) _ _ _ _ hK9 rfl dX0_canTrade_54 hP hD hS
      · have hf := if_f hf hc
        refine lv_iconst (v := (nI 1)) hx hb dX0_canTrade_49 (ic_1) ?_
        refine lv_goto (tgt := 54) hx hb dX0_canTrade_50 (by decide) ?_
        have hK9 := K0_of hf hK
        exact hRet (nI 1) _ _ _ _ hK9 rfl dX0_canTrade_54 hP hD hS
noncomputable def p_X0_moveFeathers (f : Mem) (x1 : Int32) (x2 : Int32) (x3 : Int32) (x4 : Int32) : Option (Mem) :=
  gd (inb ((x3 * (nI 5)) + x2) 15) <|
  gd (inb ((x3 * (nI 5)) + x2) 15) <|
  bnd (upd (f 4) ((x3 * (nI 5)) + x2).toNatClampNeg ((f 4 ((x3 * (nI 5)) + x2).toNatClampNeg) - x4)) <| fun g14 =>
  gd (inb ((x3 * (nI 5)) + x1) 15) <|
  gd (inb ((x3 * (nI 5)) + x1) 15) <|
  bnd (upd (g14) ((x3 * (nI 5)) + x1).toNatClampNeg ((g14 ((x3 * (nI 5)) + x1).toNatClampNeg) + x4)) <| fun g29 =>
  some (mrow 4 (g29) (mrow 4 (g14) f))
set_option maxHeartbeats 4000000 in
set_option maxRecDepth 100000 in
theorem c_X0_moveFeathers (l : Launch) (G : Gt) (ad : Nat → Nat) (f : Mem) (x1 : Int32) (x2 : Int32) (x3 : Int32) (x4 : Int32) (fz : Mem) (hf : p_X0_moveFeathers f x1 x2 x3 x4 = some fz) (sz : Nat) : Met l yX0_moveFeathers wsX0_moveFeathers ({ frames := 1, cells := 0, slots := 0, locals := 12 }) (Pc0 G sz [.ref (ad 0), .int x1, .int x2, .int x3, .int x4] (wX0 G ad f)) (Qv0 G (va_A (wX0 G ad f) sz) (wX0 G ad fz)) 0 0 (va_A (wX0 G ad f) sz) := by
  refine metP (Qf := fun A => Qv0 G A (wX0 G ad fz)) cX0_moveFeathers 5 (none) (by decide) rfl (Nat.le_of_ble_eq_true rfl) ?_
  intro p e s m below meth c A ls hC hr hlocks hin hE hA hsz hP hD hS hl
  generalize hargs : ([.ref (ad 0), .int x1, .int x2, .int x3, .int x4] : List Value).toArray = args at hC ⊢
  obtain ⟨hx, hb, hml, hown, hts⟩ := id hC
  have hT : va_K G.1 vwCl (tyL G) s := hE.1
  have hRet : ∀ (f9 : Mem) (H : Heap) (locs : List Loc) (ls : Array Slot) (pc : Nat) (hK9 : f9 = fz) (hdg : decode cX0_moveFeathers pc = .ok (.return_, 1)), va_P G.1 vwCl (wX0 G ad f9) H → va_D A (wX0 G ad f9) → va_S A s.heap H locs → W p l e ({ frames := 1, cells := 0, slots := 0, locals := 12 }) s m args below meth c H locs 0 0 (MQ below (Qv0 G A (wX0 G ad fz)) args s 0 0 A) (F0 m pc ls []) := by
    intro f9 H locs ls pc hK9 hdg hP hD hS
    cases hK9
    exact W.vret hx hb hr (fun t ht hW => ⟨⟨(), rfl, trivial, by rw [ht]; exact hP, hD⟩, hS.F ht⟩) hS.2.2 hdg hlocks
  generalize MQ below (Qv0 G A (wX0 G ad fz)) args s 0 0 A = Q at hRet ⊢
  have lk31 := hts (.fieldLink RX0 31 "FeatherShares$Flock" "feathers" "[I") (by decide +kernel)
  have inX0 : ∀ w ∈ u_ws RX0 TX0 13, w ∈ wsX0_moveFeathers := by decide +kernel
  have hl : lv_has ls 5 [(0, .ref (ad 0)), (1, .int x1), (2, .int x2), (3, .int x3), (4, .int x4)] := hl
  have hK0 : fz = fz := rfl
  obtain ⟨res, hres, hK⟩ : ∃ res, p_X0_moveFeathers f x1 x2 x3 x4 = some res ∧ res = fz := ⟨_, hf, rfl⟩
  clear hf
  have hf := hres
  clear hres
  unfold p_X0_moveFeathers at hf
  refine lv_aload_n hx hb dX0_moveFeathers_0 rfl (lv_at hl 0 rfl) ?_
  refine va_get (C := RX0) (T := TX0) (N := 13) (ci := 0) (v := .ref (ad 4)) hx hb hts inX0 hown hT hP 0 rfl rfl 6 (Nat.le_of_ble_eq_true rfl) lk31 (fun _ h => h) rfl dX0_moveFeathers_1 ?_
  refine lv_iload_n hx hb dX0_moveFeathers_4 rfl (lv_at hl 3 rfl) ?_
  refine lv_iconst (v := (nI 5)) hx hb dX0_moveFeathers_5 (ic_5) ?_
  refine lv_imul hx hb dX0_moveFeathers_6 ?_
  refine lv_iload_n hx hb dX0_moveFeathers_7 rfl (lv_at hl 2 rfl) ?_
  refine lv_iadd hx hb dX0_moveFeathers_8 ?_
  refine lv_dup2_11 hx hb dX0_moveFeathers_9 rfl rfl ?_
  obtain ⟨hg, hf⟩ := gd_e hf
  refine va_iald (f := f 4) hx hb hT hP 4 0 rfl rfl (inb_e hg) dX0_moveFeathers_10 ?_
  refine lv_iload hx hb dX0_moveFeathers_11 (lv_at hl 4 rfl) ?_
  refine lv_isub hx hb dX0_moveFeathers_13 ?_
  obtain ⟨hg, hf⟩ := gd_e hf
  obtain ⟨g14, eg14, hf⟩ := bnd_e hf
  refine va_iast (f := f 4) hx hb hT hP hD hS 4 0 rfl rfl (inb_e hg) dX0_moveFeathers_14 (fun H locs hP hD hS => ?_)
  rw [← eg14] at hP hD
  have hP : va_P G.1 vwCl (wX0 G ad (mrow 4 (g14) f)) H := hP
  have hD : va_D A (wX0 G ad (mrow 4 (g14) f)) := hD
  refine lv_aload_n hx hb dX0_moveFeathers_15 rfl (lv_at hl 0 rfl) ?_
  refine va_get (C := RX0) (T := TX0) (N := 13) (ci := 0) (v := .ref (ad 4)) hx hb hts inX0 hown hT hP 0 rfl rfl 6 (Nat.le_of_ble_eq_true rfl) lk31 (fun _ h => h) rfl dX0_moveFeathers_16 ?_
  refine lv_iload_n hx hb dX0_moveFeathers_19 rfl (lv_at hl 3 rfl) ?_
  refine lv_iconst (v := (nI 5)) hx hb dX0_moveFeathers_20 (ic_5) ?_
  refine lv_imul hx hb dX0_moveFeathers_21 ?_
  refine lv_iload_n hx hb dX0_moveFeathers_22 rfl (lv_at hl 1 rfl) ?_
  refine lv_iadd hx hb dX0_moveFeathers_23 ?_
  refine lv_dup2_11 hx hb dX0_moveFeathers_24 rfl rfl ?_
  obtain ⟨hg, hf⟩ := gd_e hf
  refine va_iald (f := g14) hx hb hT hP 4 0 rfl rfl (inb_e hg) dX0_moveFeathers_25 ?_
  refine lv_iload hx hb dX0_moveFeathers_26 (lv_at hl 4 rfl) ?_
  refine lv_iadd hx hb dX0_moveFeathers_28 ?_
  obtain ⟨hg, hf⟩ := gd_e hf
  obtain ⟨g29, eg29, hf⟩ := bnd_e hf
  refine va_iast (f := g14) hx hb hT hP hD hS 4 0 rfl rfl (inb_e hg) dX0_moveFeathers_29 (fun H locs hP hD hS => ?_)
  rw [← eg29] at hP hD
  have hP : va_P G.1 vwCl (wX0 G ad (mrow 4 (g29) (mrow 4 (g14) f))) H := hP
  have hD : va_D A (wX0 G ad (mrow 4 (g29) (mrow 4 (g14) f))) := hD
  have hK9 := K0_of hf hK
  exact hRet (mrow 4 (g29) (mrow 4 (g14) f)) _ _ _ _ hK9 dX0_moveFeathers_30 hP hD hS
noncomputable def p_X0_exchange (f : Mem) (x1 : Int32) (x2 : Int32) (x3 : Int32) (x4 : Int32) : Option (Mem) :=
  Option.bind (p_X0_moveFeathers f x1 x2 x3 x4) <| fun f_6 =>
  gd (inb x1 5) <|
  gd (inb x3 3) <|
  gd (inb x1 5) <|
  bnd (upd (f_6 5) x1.toNatClampNeg ((f_6 5 x1.toNatClampNeg) - (x4 * (f_6 3 x3.toNatClampNeg)))) <| fun g26 =>
  gd (inb x2 5) <|
  gd (inb x3 3) <|
  gd (inb x2 5) <|
  bnd (upd (g26) x2.toNatClampNeg ((g26 x2.toNatClampNeg) + (x4 * (f_6 3 x3.toNatClampNeg)))) <| fun g44 =>
  some (mrow 5 (g44) (mrow 5 (g26) f_6))
set_option maxHeartbeats 4000000 in
set_option maxRecDepth 100000 in
theorem c_X0_exchange (l : Launch) (G : Gt) (ad : Nat → Nat) (f : Mem) (x1 : Int32) (x2 : Int32) (x3 : Int32) (x4 : Int32) (fz : Mem) (hf : p_X0_exchange f x1 x2 x3 x4 = some fz) (sz : Nat) : Met l yX0_exchange wsX0_exchange ({ frames := 2, cells := 0, slots := 0, locals := 36 }) (Pc0 G sz [.ref (ad 0), .int x1, .int x2, .int x3, .int x4] (wX0 G ad f)) (Qv0 G (va_A (wX0 G ad f) sz) (wX0 G ad fz)) 0 0 (va_A (wX0 G ad f) sz) := by
  refine metP (Qf := fun A => Qv0 G A (wX0 G ad fz)) cX0_exchange 5 (none) (by decide) rfl (Nat.le_of_ble_eq_true rfl) ?_
  intro p e s m below meth c A ls hC hr hlocks hin hE hA hsz hP hD hS hl
  generalize hargs : ([.ref (ad 0), .int x1, .int x2, .int x3, .int x4] : List Value).toArray = args at hC ⊢
  obtain ⟨hx, hb, hml, hown, hts⟩ := id hC
  have hT : va_K G.1 vwCl (tyL G) s := hE.1
  have hRet : ∀ (f9 : Mem) (H : Heap) (locs : List Loc) (ls : Array Slot) (pc : Nat) (hK9 : f9 = fz) (hdg : decode cX0_exchange pc = .ok (.return_, 1)), va_P G.1 vwCl (wX0 G ad f9) H → va_D A (wX0 G ad f9) → va_S A s.heap H locs → W p l e ({ frames := 2, cells := 0, slots := 0, locals := 36 }) s m args below meth c H locs 0 0 (MQ below (Qv0 G A (wX0 G ad fz)) args s 0 0 A) (F0 m pc ls []) := by
    intro f9 H locs ls pc hK9 hdg hP hD hS
    cases hK9
    exact W.vret hx hb hr (fun t ht hW => ⟨⟨(), rfl, trivial, by rw [ht]; exact hP, hD⟩, hS.F ht⟩) hS.2.2 hdg hlocks
  generalize MQ below (Qv0 G A (wX0 G ad fz)) args s 0 0 A = Q at hRet ⊢
  have lk34 := hts (.fieldLink RX0 34 "FeatherShares$Flock" "money" "[I") (by decide +kernel)
  have inX0 : ∀ w ∈ u_ws RX0 TX0 13, w ∈ wsX0_exchange := by decide +kernel
  have lk28 := hts (.fieldLink RX0 28 "FeatherShares$Flock" "price" "[I") (by decide +kernel)
  have hl : lv_has ls 5 [(0, .ref (ad 0)), (1, .int x1), (2, .int x2), (3, .int x3), (4, .int x4)] := hl
  have hK0 : fz = fz := rfl
  obtain ⟨res, hres, hK⟩ : ∃ res, p_X0_exchange f x1 x2 x3 x4 = some res ∧ res = fz := ⟨_, hf, rfl⟩
  clear hf
  have hf := hres
  clear hres
  unfold p_X0_exchange at hf
  refine lv_aload_n hx hb dX0_exchange_0 rfl (lv_at hl 0 rfl) ?_
  refine lv_iload_n hx hb dX0_exchange_1 rfl (lv_at hl 1 rfl) ?_
  refine lv_iload_n hx hb dX0_exchange_2 rfl (lv_at hl 2 rfl) ?_
  refine lv_iload_n hx hb dX0_exchange_3 rfl (lv_at hl 3 rfl) ?_
  refine lv_iload hx hb dX0_exchange_4 (lv_at hl 4 rfl) ?_
  obtain ⟨f_6, hc6, hf⟩ := bd_e hf
  refine cl_v_same (Wd := (wX0 G ad f)) (W' := (wX0 G ad f_6)) (va_runV (As := [.int x1, .int x2, .int x3, .int x4]) (rest := []) hC (c_X0_moveFeathers l G ad f x1 x2 x3 x4 f_6 hc6 _) (cwV 4 hts gX0_exchange_X0_moveFeathers rfl rfl rfl (by decide +kernel) ⟨Nat.le_of_ble_eq_true rfl, Nat.le_of_ble_eq_true rfl⟩) ⟨Pc0_blind, va_recv hT hP (q0 := 0) (ci := 0) rfl rfl, fun U hU hW => Pc0_at hE hP hD hU hW⟩ rfl rfl hl.1 rfl (lv_room (Nat.le_of_ble_eq_true rfl)) dX0_exchange_6 ⟨Nat.zero_le _, Nat.zero_le _⟩) hS hA hD (fun H locs hP hD hS => ?_)
  refine lv_aload_n hx hb dX0_exchange_9 rfl (lv_at hl 0 rfl) ?_
  refine va_get (C := RX0) (T := TX0) (N := 13) (ci := 0) (v := .ref (ad 5)) hx hb hts inX0 hown hT hP 0 rfl rfl 7 (Nat.le_of_ble_eq_true rfl) lk34 (fun _ h => h) rfl dX0_exchange_10 ?_
  refine lv_iload_n hx hb dX0_exchange_13 rfl (lv_at hl 1 rfl) ?_
  refine lv_dup2_11 hx hb dX0_exchange_14 rfl rfl ?_
  obtain ⟨hg, hf⟩ := gd_e hf
  refine va_iald (f := f_6 5) hx hb hT hP 5 0 rfl rfl (inb_e hg) dX0_exchange_15 ?_
  refine lv_iload hx hb dX0_exchange_16 (lv_at hl 4 rfl) ?_
  refine lv_aload_n hx hb dX0_exchange_18 rfl (lv_at hl 0 rfl) ?_
  refine va_get (C := RX0) (T := TX0) (N := 13) (ci := 0) (v := .ref (ad 3)) hx hb hts inX0 hown hT hP 0 rfl rfl 5 (Nat.le_of_ble_eq_true rfl) lk28 (fun _ h => h) rfl dX0_exchange_19 ?_
  refine lv_iload_n hx hb dX0_exchange_22 rfl (lv_at hl 3 rfl) ?_
  obtain ⟨hg, hf⟩ := gd_e hf
  refine va_iald (f := f_6 3) hx hb hT hP 3 0 rfl rfl (inb_e hg) dX0_exchange_23 ?_
  refine lv_imul hx hb dX0_exchange_24 ?_
  refine lv_isub hx hb dX0_exchange_25 ?_
  obtain ⟨hg, hf⟩ := gd_e hf
  obtain ⟨g26, eg26, hf⟩ := bnd_e hf
  refine va_iast (f := f_6 5) hx hb hT hP hD hS 5 0 rfl rfl (inb_e hg) dX0_exchange_26 (fun H locs hP hD hS => ?_)
  rw [← eg26] at hP hD
  have hP : va_P G.1 vwCl (wX0 G ad (mrow 5 (g26) f_6)) H := hP
  have hD : va_D A (wX0 G ad (mrow 5 (g26) f_6)) := hD
  refine lv_aload_n hx hb dX0_exchange_27 rfl (lv_at hl 0 rfl) ?_
  refine va_get (C := RX0) (T := TX0) (N := 13) (ci := 0) (v := .ref (ad 5)) hx hb hts inX0 hown hT hP 0 rfl rfl 7 (Nat.le_of_ble_eq_true rfl) lk34 (fun _ h => h) rfl dX0_exchange_28 ?_
  refine lv_iload_n hx hb dX0_exchange_31 rfl (lv_at hl 2 rfl) ?_
  refine lv_dup2_11 hx hb dX0_exchange_32 rfl rfl ?_
  obtain ⟨hg, hf⟩ := gd_e hf
  refine va_iald (f := g26) hx hb hT hP 5 0 rfl rfl (inb_e hg) dX0_exchange_33 ?_
  refine lv_iload hx hb dX0_exchange_34 (lv_at hl 4 rfl) ?_
  refine lv_aload_n hx hb dX0_exchange_36 rfl (lv_at hl 0 rfl) ?_
  refine va_get (C := RX0) (T := TX0) (N := 13) (ci := 0) (v := .ref (ad 3)) hx hb hts inX0 hown hT hP 0 rfl rfl 5 (Nat.le_of_ble_eq_true rfl) lk28 (fun _ h => h) rfl dX0_exchange_37 ?_
  refine lv_iload_n hx hb dX0_exchange_40 rfl (lv_at hl 3 rfl) ?_
  obtain ⟨hg, hf⟩ := gd_e hf
  refine va_iald (f := f_6 3) hx hb hT hP 3 0 rfl rfl (inb_e hg) dX0_exchange_41 ?_
  refine lv_imul hx hb dX0_exchange_42 ?_
  refine lv_iadd hx hb dX0_exchange_43 ?_
  obtain ⟨hg, hf⟩ := gd_e hf
  obtain ⟨g44, eg44, hf⟩ := bnd_e hf
  refine va_iast (f := g26) hx hb hT hP hD hS 5 0 rfl rfl (inb_e hg) dX0_exchange_44 (fun H locs hP hD hS => ?_)
  rw [← eg44] at hP hD
  have hP : va_P G.1 vwCl (wX0 G ad (mrow 5 (g44) (mrow 5 (g26) f_6))) H := hP
  have hD : va_D A (wX0 G ad (mrow 5 (g44) (mrow 5 (g26) f_6))) := hD
  have hK9 := K0_of hf hK
  exact hRet (mrow 5 (g44) (mrow 5 (g26) f_6)) _ _ _ _ hK9 dX0_exchange_45 hP hD hS
noncomputable def p_X0_tryTrade (f : Mem) (x1 : Int32) (x2 : Int32) (x3 : Int32) (x4 : Int32) : Option (Int32 × Mem) :=
  Option.bind (p_X0_isTrade f x1 x2 x3 x4) <| fun r6 =>
  if r6 = 0 then
    (some ((nI 0), f))
  else
    (Option.bind (p_X0_canTrade f x1 x2 x3 x4) <| fun r18 =>
     if r18 = 0 then
       (some ((nI 0), f))
     else
       (Option.bind (p_X0_exchange f x1 x2 x3 x4) <| fun f_32 =>
        some ((nI 1), f_32)))
set_option maxHeartbeats 4000000 in
set_option maxRecDepth 100000 in
theorem c_X0_tryTrade (l : Launch) (G : Gt) (ad : Nat → Nat) (f : Mem) (x1 : Int32) (x2 : Int32) (x3 : Int32) (x4 : Int32) (r : Int32) (fz : Mem) (hf : p_X0_tryTrade f x1 x2 x3 x4 = some (r, fz)) (sz : Nat) : Met l yX0_tryTrade wsX0_tryTrade ({ frames := 4, cells := 0, slots := 0, locals := 83 }) (Pc0 G sz [.ref (ad 0), .int x1, .int x2, .int x3, .int x4] (wX0 G ad f)) (Qz0 G (va_A (wX0 G ad f) sz) r (wX0 G ad fz)) 0 0 (va_A (wX0 G ad f) sz) := by
  refine metP (Qf := fun A => Qz0 G A r (wX0 G ad fz)) cX0_tryTrade 5 (some .boolean) (by decide) rfl (Nat.le_of_ble_eq_true rfl) ?_
  intro p e s m below meth c A ls hC hr hlocks hin hE hA hsz hP hD hS hl
  generalize hargs : ([.ref (ad 0), .int x1, .int x2, .int x3, .int x4] : List Value).toArray = args at hC ⊢
  obtain ⟨hx, hb, hml, hown, hts⟩ := id hC
  have hT : va_K G.1 vwCl (tyL G) s := hE.1
  have hRet : ∀ (r9 : Int32) (f9 : Mem) (H : Heap) (locs : List Loc) (ls : Array Slot) (pc : Nat) (hK9 : (r9, f9) = (r, fz)) (hn9 : narrow .boolean (.int r9) = .int r9) (hdg : decode cX0_tryTrade pc = .ok (.ireturn, 1)), va_P G.1 vwCl (wX0 G ad f9) H → va_D A (wX0 G ad f9) → va_S A s.heap H locs → W p l e ({ frames := 4, cells := 0, slots := 0, locals := 83 }) s m args below meth c H locs 0 0 (MQ below (Qz0 G A r (wX0 G ad fz)) args s 0 0 A) (F0 m pc ls [.int r9]) := by
    intro r9 f9 H locs ls pc hK9 hn9 hdg hP hD hS
    cases hK9
    exact W.zret hx hb hr hn9 (fun t ht hW => ⟨⟨r, (), rfl, ⟨rfl, hn9⟩, by rw [ht]; exact hP, hD⟩, hS.F ht⟩) hS.2.2 hdg hlocks
  generalize MQ below (Qz0 G A r (wX0 G ad fz)) args s 0 0 A = Q at hRet ⊢
  have hl : lv_has ls 5 [(0, .ref (ad 0)), (1, .int x1), (2, .int x2), (3, .int x3), (4, .int x4)] := hl
  have hK0 : (r, fz) = (r, fz) := rfl
  obtain ⟨res, hres, hK⟩ : ∃ res, p_X0_tryTrade f x1 x2 x3 x4 = some res ∧ res = (r, fz) := ⟨_, hf, rfl⟩
  clear hf
  have hf := hres
  clear hres
  unfold p_X0_tryTrade at hf
  refine lv_aload_n hx hb dX0_tryTrade_0 rfl (lv_at hl 0 rfl) ?_
  refine lv_iload_n hx hb dX0_tryTrade_1 rfl (lv_at hl 1 rfl) ?_
  refine lv_iload_n hx hb dX0_tryTrade_2 rfl (lv_at hl 2 rfl) ?_
  refine lv_iload_n hx hb dX0_tryTrade_3 rfl (lv_at hl 3 rfl) ?_
  refine lv_iload hx hb dX0_tryTrade_4 (lv_at hl 4 rfl) ?_
  obtain ⟨r6, hc6, hf⟩ := bd_e hf
  refine cl_z_same (Wd := (wX0 G ad f)) (W' := (wX0 G ad f)) (va_runV (As := [.int x1, .int x2, .int x3, .int x4]) (rest := []) hC (c_X0_isTrade l G ad f x1 x2 x3 x4 r6 hc6 _) (cwV 4 hts gX0_tryTrade_X0_isTrade rfl rfl rfl (by decide +kernel) ⟨Nat.le_of_ble_eq_true rfl, Nat.le_of_ble_eq_true rfl⟩) ⟨Pc0_blind, va_recv hT hP (q0 := 0) (ci := 0) rfl rfl, fun U hU hW => Pc0_at hE hP hD hU hW⟩ rfl rfl hl.1 rfl (lv_room (Nat.le_of_ble_eq_true rfl)) dX0_tryTrade_6 ⟨Nat.zero_le _, Nat.zero_le _⟩) hS hA hD (fun H locs hn6 hP hD hS => ?_)
  refine lv_if_eq (tgt := 24) hx hb dX0_tryTrade_9 (by decide) (fun hc => ?_) (fun hc => ?_)
  · have hf := if_t hf hc
    refine lv_iconst (v := (nI 0)) hx hb dX0_tryTrade_24 (ic_0) ?_
    have hK9 := K0_of hf hK
    exact hRet (nI 0) f _ _ _ _ hK9 rfl dX0_tryTrade_25 hP hD hS
  · have hf := if_f hf hc
    refine lv_aload_n hx hb dX0_tryTrade_12 rfl (lv_at hl 0 rfl) ?_
    refine lv_iload_n hx hb dX0_tryTrade_13 rfl (lv_at hl 1 rfl) ?_
    refine lv_iload_n hx hb dX0_tryTrade_14 rfl (lv_at hl 2 rfl) ?_
    refine lv_iload_n hx hb dX0_tryTrade_15 rfl (lv_at hl 3 rfl) ?_
    refine lv_iload hx hb dX0_tryTrade_16 (lv_at hl 4 rfl) ?_
    obtain ⟨r18, hc18, hf⟩ := bd_e hf
    refine cl_z_same (Wd := (wX0 G ad f)) (W' := (wX0 G ad f)) (va_runV (As := [.int x1, .int x2, .int x3, .int x4]) (rest := []) hC (c_X0_canTrade l G ad f x1 x2 x3 x4 r18 hc18 _) (cwV 4 hts gX0_tryTrade_X0_canTrade rfl rfl rfl (by decide +kernel) ⟨Nat.le_of_ble_eq_true rfl, Nat.le_of_ble_eq_true rfl⟩) ⟨Pc0_blind, va_recv hT hP (q0 := 0) (ci := 0) rfl rfl, fun U hU hW => Pc0_at hE hP hD hU hW⟩ rfl rfl hl.1 rfl (lv_room (Nat.le_of_ble_eq_true rfl)) dX0_tryTrade_18 ⟨Nat.zero_le _, Nat.zero_le _⟩) hS hA hD (fun H locs hn18 hP hD hS => ?_)
    refine lv_if_ne (tgt := 26) hx hb dX0_tryTrade_21 (by decide) (fun hc => ?_) (fun hc => ?_)
    · have hf := if_f hf hc
      refine lv_aload_n hx hb dX0_tryTrade_26 rfl (lv_at hl 0 rfl) ?_
      refine lv_iload_n hx hb dX0_tryTrade_27 rfl (lv_at hl 1 rfl) ?_
      refine lv_iload_n hx hb dX0_tryTrade_28 rfl (lv_at hl 2 rfl) ?_
      refine lv_iload_n hx hb dX0_tryTrade_29 rfl (lv_at hl 3 rfl) ?_
      refine lv_iload hx hb dX0_tryTrade_30 (lv_at hl 4 rfl) ?_
      obtain ⟨f_32, hc32, hf⟩ := bd_e hf
      refine cl_v_same (Wd := (wX0 G ad f)) (W' := (wX0 G ad f_32)) (va_runV (As := [.int x1, .int x2, .int x3, .int x4]) (rest := []) hC (c_X0_exchange l G ad f x1 x2 x3 x4 f_32 hc32 _) (cwV 4 hts gX0_tryTrade_X0_exchange rfl rfl rfl (by decide +kernel) ⟨Nat.le_of_ble_eq_true rfl, Nat.le_of_ble_eq_true rfl⟩) ⟨Pc0_blind, va_recv hT hP (q0 := 0) (ci := 0) rfl rfl, fun U hU hW => Pc0_at hE hP hD hU hW⟩ rfl rfl hl.1 rfl (lv_room (Nat.le_of_ble_eq_true rfl)) dX0_tryTrade_32 ⟨Nat.zero_le _, Nat.zero_le _⟩) hS hA hD (fun H locs hP hD hS => ?_)
      refine lv_iconst (v := (nI 1)) hx hb dX0_tryTrade_35 (ic_1) ?_
      have hK9 := K0_of hf hK
      exact hRet (nI 1) f_32 _ _ _ _ hK9 rfl dX0_tryTrade_36 hP hD hS
    · have hf := if_t hf hc
      refine lv_iconst (v := (nI 0)) hx hb dX0_tryTrade_24 (ic_0) ?_
      have hK9 := K0_of hf hK
      exact hRet (nI 0) f _ _ _ _ hK9 rfl dX0_tryTrade_25 hP hD hS
noncomputable def p_X0_tryDrawn (f : Mem) (x1 : Int32) : Option (Int32 × Mem) :=
  if (nI 1) ≤ (f 0 0) then
    (gd (nz (f 0 0)) <|
     Option.bind (p_X0_tryTrade f ((x1 / (nI 4)) - (x1 / (nI 4)) / (nI 5) * (nI 5)) ((x1 / (nI 32)) - (x1 / (nI 32)) / (nI 5) * (nI 5)) (x1 - x1 / (f 0 0) * (f 0 0)) ((nI 1) + ((x1 / (nI 256)) - (x1 / (nI 256)) / (nI 9) * (nI 9)))) <| fun (r38, f_38) =>
     some (r38, f_38))
  else
    (some ((nI 0), f))
set_option maxHeartbeats 4000000 in
set_option maxRecDepth 100000 in
theorem c_X0_tryDrawn (l : Launch) (G : Gt) (ad : Nat → Nat) (f : Mem) (x1 : Int32) (r : Int32) (fz : Mem) (hf : p_X0_tryDrawn f x1 = some (r, fz)) (sz : Nat) : Met l yX0_tryDrawn wsX0_tryDrawn ({ frames := 5, cells := 0, slots := 0, locals := 107 }) (Pc0 G sz [.ref (ad 0), .int x1] (wX0 G ad f)) (Qz0 G (va_A (wX0 G ad f) sz) r (wX0 G ad fz)) 0 0 (va_A (wX0 G ad f) sz) := by
  refine metP (Qf := fun A => Qz0 G A r (wX0 G ad fz)) cX0_tryDrawn 2 (some .boolean) (by decide) rfl (Nat.le_of_ble_eq_true rfl) ?_
  intro p e s m below meth c A ls hC hr hlocks hin hE hA hsz hP hD hS hl
  generalize hargs : ([.ref (ad 0), .int x1] : List Value).toArray = args at hC ⊢
  obtain ⟨hx, hb, hml, hown, hts⟩ := id hC
  have hT : va_K G.1 vwCl (tyL G) s := hE.1
  have hRet : ∀ (r9 : Int32) (f9 : Mem) (H : Heap) (locs : List Loc) (ls : Array Slot) (pc : Nat) (hK9 : (r9, f9) = (r, fz)) (hn9 : narrow .boolean (.int r9) = .int r9) (hdg : decode cX0_tryDrawn pc = .ok (.ireturn, 1)), va_P G.1 vwCl (wX0 G ad f9) H → va_D A (wX0 G ad f9) → va_S A s.heap H locs → W p l e ({ frames := 5, cells := 0, slots := 0, locals := 107 }) s m args below meth c H locs 0 0 (MQ below (Qz0 G A r (wX0 G ad fz)) args s 0 0 A) (F0 m pc ls [.int r9]) := by
    intro r9 f9 H locs ls pc hK9 hn9 hdg hP hD hS
    cases hK9
    exact W.zret hx hb hr hn9 (fun t ht hW => ⟨⟨r, (), rfl, ⟨rfl, hn9⟩, by rw [ht]; exact hP, hD⟩, hS.F ht⟩) hS.2.2 hdg hlocks
  generalize MQ below (Qz0 G A r (wX0 G ad fz)) args s 0 0 A = Q at hRet ⊢
  have lk9 := hts (.fieldLink RX0 9 "FeatherShares$Flock" "geese" "I") (by decide +kernel)
  have inX0 : ∀ w ∈ u_ws RX0 TX0 13, w ∈ wsX0_tryDrawn := by decide +kernel
  have hl : lv_has ls 2 [(0, .ref (ad 0)), (1, .int x1)] := hl
  have hK0 : (r, fz) = (r, fz) := rfl
  obtain ⟨res, hres, hK⟩ : ∃ res, p_X0_tryDrawn f x1 = some res ∧ res = (r, fz) := ⟨_, hf, rfl⟩
  clear hf
  have hf := hres
  clear hres
  unfold p_X0_tryDrawn at hf
  refine lv_aload_n hx hb dX0_tryDrawn_0 rfl (lv_at hl 0 rfl) ?_
  refine va_get (C := RX0) (T := TX0) (N := 13) (ci := 0) (v := .int (f 0 0)) hx hb hts inX0 hown hT hP 0 rfl rfl 0 (Nat.le_of_ble_eq_true rfl) lk9 (fun _ h => h) rfl dX0_tryDrawn_1 ?_
  refine lv_iconst (v := (nI 1)) hx hb dX0_tryDrawn_4 (ic_1) ?_
  refine lv_icmp_ge (tgt := 10) hx hb dX0_tryDrawn_5 (by decide) (fun hc => ?_) (fun hc => ?_)
  · have hf := if_t hf hc
    refine lv_aload_n hx hb dX0_tryDrawn_10 rfl (lv_at hl 0 rfl) ?_
    refine lv_iload_n hx hb dX0_tryDrawn_11 rfl (lv_at hl 1 rfl) ?_
    refine lv_iconst (v := (nI 4)) hx hb dX0_tryDrawn_12 (ic_4) ?_
    refine lv_idiv hx hb dX0_tryDrawn_13 (by decide) ?_
    refine lv_iconst (v := (nI 5)) hx hb dX0_tryDrawn_14 (ic_5) ?_
    refine lv_irem hx hb dX0_tryDrawn_15 (by decide) ?_
    refine lv_iload_n hx hb dX0_tryDrawn_16 rfl (lv_at hl 1 rfl) ?_
    refine lv_bipush (v := (nI 32)) hx hb dX0_tryDrawn_17 (bi_32) ?_
    refine lv_idiv hx hb dX0_tryDrawn_19 (by decide) ?_
    refine lv_iconst (v := (nI 5)) hx hb dX0_tryDrawn_20 (ic_5) ?_
    refine lv_irem hx hb dX0_tryDrawn_21 (by decide) ?_
    refine lv_iload_n hx hb dX0_tryDrawn_22 rfl (lv_at hl 1 rfl) ?_
    refine lv_aload_n hx hb dX0_tryDrawn_23 rfl (lv_at hl 0 rfl) ?_
    refine va_get (C := RX0) (T := TX0) (N := 13) (ci := 0) (v := .int (f 0 0)) hx hb hts inX0 hown hT hP 0 rfl rfl 0 (Nat.le_of_ble_eq_true rfl) lk9 (fun _ h => h) rfl dX0_tryDrawn_24 ?_
    obtain ⟨hg, hf⟩ := gd_e hf
    refine lv_irem hx hb dX0_tryDrawn_27 (nz_e hg) ?_
    refine lv_iconst (v := (nI 1)) hx hb dX0_tryDrawn_28 (ic_1) ?_
    refine lv_iload_n hx hb dX0_tryDrawn_29 rfl (lv_at hl 1 rfl) ?_
    refine lv_sipush (v := (nI 256)) hx hb dX0_tryDrawn_30 (si_256) ?_
    refine lv_idiv hx hb dX0_tryDrawn_33 (by decide) ?_
    refine lv_bipush (v := (nI 9)) hx hb dX0_tryDrawn_34 (bi_9) ?_
    refine lv_irem hx hb dX0_tryDrawn_36 (by decide) ?_
    refine lv_iadd hx hb dX0_tryDrawn_37 ?_
    obtain ⟨⟨r38, f_38⟩, hc38, hf⟩ := bd_e hf
    try dsimp only at hf
    refine cl_z_same (Wd := (wX0 G ad f)) (W' := (wX0 G ad f_38)) (va_runV (As := [.int ((x1 / (nI 4)) - (x1 / (nI 4)) / (nI 5) * (nI 5)), .int ((x1 / (nI 32)) - (x1 / (nI 32)) / (nI 5) * (nI 5)), .int (x1 - x1 / (f 0 0) * (f 0 0)), .int ((nI 1) + ((x1 / (nI 256)) - (x1 / (nI 256)) / (nI 9) * (nI 9)))]) (rest := []) hC (c_X0_tryTrade l G ad f ((x1 / (nI 4)) - (x1 / (nI 4)) / (nI 5) * (nI 5)) ((x1 / (nI 32)) - (x1 / (nI 32)) / (nI 5) * (nI 5)) (x1 - x1 / (f 0 0) * (f 0 0)) ((nI 1) + ((x1 / (nI 256)) - (x1 / (nI 256)) / (nI 9) * (nI 9))) r38 f_38 hc38 _) (cwV 4 hts gX0_tryDrawn_X0_tryTrade rfl rfl rfl (by decide +kernel) ⟨Nat.le_of_ble_eq_true rfl, Nat.le_of_ble_eq_true rfl⟩) ⟨Pc0_blind, va_recv hT hP (q0 := 0) (ci := 0) rfl rfl, fun U hU hW => Pc0_at hE hP hD hU hW⟩ rfl rfl hl.1 rfl (lv_room (Nat.le_of_ble_eq_true rfl)) dX0_tryDrawn_38 ⟨Nat.zero_le _, Nat.zero_le _⟩) hS hA hD (fun H locs hn38 hP hD hS => ?_)
    have hK9 := K0_of hf hK
    exact hRet r38 f_38 _ _ _ _ hK9 hn38 dX0_tryDrawn_41 hP hD hS
  · have hf := if_f hf hc
    refine lv_iconst (v := (nI 0)) hx hb dX0_tryDrawn_8 (ic_0) ?_
    have hK9 := K0_of hf hK
    exact hRet (nI 0) f _ _ _ _ hK9 rfl dX0_tryDrawn_9 hP hD hS
noncomputable def p_X0_wouldGetEgg_B23 (f : Mem) (x1 : Int32) (x2 : Int32) (x3 : Int32) (x4 : Int32) (s0 : Int32) : Option (Int32 × Mem) :=
  Option.bind (p_X0_moveFeathers f x2 x1 x3 x4) <| fun f_31 =>
  gd (zb s0) <|
  some (s0, f_31)
noncomputable def p_X0_wouldGetEgg (f : Mem) (x1 : Int32) (x2 : Int32) (x3 : Int32) (x4 : Int32) : Option (Int32 × Mem) :=
  Option.bind (p_X0_moveFeathers f x1 x2 x3 x4) <| fun f_6 =>
  Option.bind (p_X0_eggOwner f_6 x3) <| fun r11 =>
  if r11 = x1 then
    (p_X0_wouldGetEgg_B23 f_6 x1 x2 x3 x4 (nI 1))
  else
    (p_X0_wouldGetEgg_B23 f_6 x1 x2 x3 x4 (nI 0))
set_option maxHeartbeats 4000000 in
set_option maxRecDepth 100000 in
theorem c_X0_wouldGetEgg (l : Launch) (G : Gt) (ad : Nat → Nat) (f : Mem) (x1 : Int32) (x2 : Int32) (x3 : Int32) (x4 : Int32) (r : Int32) (fz : Mem) (hf : p_X0_wouldGetEgg f x1 x2 x3 x4 = some (r, fz)) (sz : Nat) : Met l yX0_wouldGetEgg wsX0_wouldGetEgg ({ frames := 3, cells := 0, slots := 0, locals := 57 }) (Pc0 G sz [.ref (ad 0), .int x1, .int x2, .int x3, .int x4] (wX0 G ad f)) (Qz0 G (va_A (wX0 G ad f) sz) r (wX0 G ad fz)) 0 0 (va_A (wX0 G ad f) sz) := by
  refine metP (Qf := fun A => Qz0 G A r (wX0 G ad fz)) cX0_wouldGetEgg 6 (some .boolean) (by decide) rfl (Nat.le_of_ble_eq_true rfl) ?_
  intro p e s m below meth c A ls hC hr hlocks hin hE hA hsz hP hD hS hl
  generalize hargs : ([.ref (ad 0), .int x1, .int x2, .int x3, .int x4] : List Value).toArray = args at hC ⊢
  obtain ⟨hx, hb, hml, hown, hts⟩ := id hC
  have hT : va_K G.1 vwCl (tyL G) s := hE.1
  have hRet : ∀ (r9 : Int32) (f9 : Mem) (H : Heap) (locs : List Loc) (ls : Array Slot) (pc : Nat) (hK9 : (r9, f9) = (r, fz)) (hn9 : narrow .boolean (.int r9) = .int r9) (hdg : decode cX0_wouldGetEgg pc = .ok (.ireturn, 1)), va_P G.1 vwCl (wX0 G ad f9) H → va_D A (wX0 G ad f9) → va_S A s.heap H locs → W p l e ({ frames := 3, cells := 0, slots := 0, locals := 57 }) s m args below meth c H locs 0 0 (MQ below (Qz0 G A r (wX0 G ad fz)) args s 0 0 A) (F0 m pc ls [.int r9]) := by
    intro r9 f9 H locs ls pc hK9 hn9 hdg hP hD hS
    cases hK9
    exact W.zret hx hb hr hn9 (fun t ht hW => ⟨⟨r, (), rfl, ⟨rfl, hn9⟩, by rw [ht]; exact hP, hD⟩, hS.F ht⟩) hS.2.2 hdg hlocks
  generalize MQ below (Qz0 G A r (wX0 G ad fz)) args s 0 0 A = Q at hRet ⊢
  have hl : lv_has ls 6 [(0, .ref (ad 0)), (1, .int x1), (2, .int x2), (3, .int x3), (4, .int x4)] := hl
  have hK0 : (r, fz) = (r, fz) := rfl
  have hB23 : ∀ (f : Mem) (x1 : Int32) (x2 : Int32) (x3 : Int32) (x4 : Int32) (s0 : Int32) (res : Int32 × Mem) (hf : p_X0_wouldGetEgg_B23 f x1 x2 x3 x4 s0 = some res) (hK : res = (r, fz)), ∀ (H : Heap) (locs : List Loc) (ls : Array Slot), va_P G.1 vwCl (wX0 G ad f) H → va_D A (wX0 G ad f) → va_S A s.heap H locs → lv_has ls 6 [(0, .ref (ad 0)), (1, .int x1), (2, .int x2), (3, .int x3), (4, .int x4)] → W p l e ({ frames := 3, cells := 0, slots := 0, locals := 57 }) s m args below meth c H locs 0 0 Q (F0 m 23 ls [.int s0]) := by
    intro f x1 x2 x3 x4 s0 res hf hK H locs ls hP hD hS hl
    unfold p_X0_wouldGetEgg_B23 at hf
    refine lv_istore (lv' := [(5, .int s0), (0, .ref (ad 0)), (1, .int x1), (2, .int x2), (3, .int x3), (4, .int x4)]) hx hb dX0_wouldGetEgg_23 hl (by decide) rfl (fun ls hl => ?_)
    refine lv_aload_n hx hb dX0_wouldGetEgg_25 rfl (lv_at hl 1 rfl) ?_
    refine lv_iload_n hx hb dX0_wouldGetEgg_26 rfl (lv_at hl 3 rfl) ?_
    refine lv_iload_n hx hb dX0_wouldGetEgg_27 rfl (lv_at hl 2 rfl) ?_
    refine lv_iload_n hx hb dX0_wouldGetEgg_28 rfl (lv_at hl 4 rfl) ?_
    refine lv_iload hx hb dX0_wouldGetEgg_29 (lv_at hl 5 rfl) ?_
    obtain ⟨f_31, hc31, hf⟩ := bd_e hf
    refine cl_v_same (Wd := (wX0 G ad f)) (W' := (wX0 G ad f_31)) (va_runV (As := [.int x2, .int x1, .int x3, .int x4]) (rest := []) hC (c_X0_moveFeathers l G ad f x2 x1 x3 x4 f_31 hc31 _) (cwV 4 hts gX0_wouldGetEgg_X0_moveFeathers rfl rfl rfl (by decide +kernel) ⟨Nat.le_of_ble_eq_true rfl, Nat.le_of_ble_eq_true rfl⟩) ⟨Pc0_blind, va_recv hT hP (q0 := 0) (ci := 0) rfl rfl, fun U hU hW => Pc0_at hE hP hD hU hW⟩ rfl rfl hl.1 rfl (lv_room (Nat.le_of_ble_eq_true rfl)) dX0_wouldGetEgg_31 ⟨Nat.zero_le _, Nat.zero_le _⟩) hS hA hD (fun H locs hP hD hS => ?_)
    refine lv_iload hx hb dX0_wouldGetEgg_34 (lv_at hl 0 rfl) ?_
    obtain ⟨hg, hf⟩ := gd_e hf
    have hK9 := K0_of hf hK
    exact hRet s0 f_31 _ _ _ _ hK9 (zb_e hg) dX0_wouldGetEgg_36 hP hD hS
  obtain ⟨res, hres, hK⟩ : ∃ res, p_X0_wouldGetEgg f x1 x2 x3 x4 = some res ∧ res = (r, fz) := ⟨_, hf, rfl⟩
  clear hf
  have hf := hres
  clear hres
  unfold p_X0_wouldGetEgg at hf
  refine lv_aload_n hx hb dX0_wouldGetEgg_0 rfl (lv_at hl 0 rfl) ?_
  refine lv_iload_n hx hb dX0_wouldGetEgg_1 rfl (lv_at hl 1 rfl) ?_
  refine lv_iload_n hx hb dX0_wouldGetEgg_2 rfl (lv_at hl 2 rfl) ?_
  refine lv_iload_n hx hb dX0_wouldGetEgg_3 rfl (lv_at hl 3 rfl) ?_
  refine lv_iload hx hb dX0_wouldGetEgg_4 (lv_at hl 4 rfl) ?_
  obtain ⟨f_6, hc6, hf⟩ := bd_e hf
  refine cl_v_same (Wd := (wX0 G ad f)) (W' := (wX0 G ad f_6)) (va_runV (As := [.int x1, .int x2, .int x3, .int x4]) (rest := []) hC (c_X0_moveFeathers l G ad f x1 x2 x3 x4 f_6 hc6 _) (cwV 4 hts gX0_wouldGetEgg_X0_moveFeathers rfl rfl rfl (by decide +kernel) ⟨Nat.le_of_ble_eq_true rfl, Nat.le_of_ble_eq_true rfl⟩) ⟨Pc0_blind, va_recv hT hP (q0 := 0) (ci := 0) rfl rfl, fun U hU hW => Pc0_at hE hP hD hU hW⟩ rfl rfl hl.1 rfl (lv_room (Nat.le_of_ble_eq_true rfl)) dX0_wouldGetEgg_6 ⟨Nat.zero_le _, Nat.zero_le _⟩) hS hA hD (fun H locs hP hD hS => ?_)
  refine lv_aload_n hx hb dX0_wouldGetEgg_9 rfl (lv_at hl 0 rfl) ?_
  refine lv_iload_n hx hb dX0_wouldGetEgg_10 rfl (lv_at hl 3 rfl) ?_
  obtain ⟨r11, hc11, hf⟩ := bd_e hf
  refine cl_i_same (Wd := (wX0 G ad f_6)) (W' := (wX0 G ad f_6)) (va_runV (As := [.int x3]) (rest := []) hC (c_X0_eggOwner l G ad f_6 x3 r11 hc11 _) (cwV 1 hts gX0_wouldGetEgg_X0_eggOwner rfl rfl rfl (by decide +kernel) ⟨Nat.le_of_ble_eq_true rfl, Nat.le_of_ble_eq_true rfl⟩) ⟨Pc0_blind, va_recv hT hP (q0 := 0) (ci := 0) rfl rfl, fun U hU hW => Pc0_at hE hP hD hU hW⟩ rfl rfl hl.1 rfl (lv_room (Nat.le_of_ble_eq_true rfl)) dX0_wouldGetEgg_11 ⟨Nat.zero_le _, Nat.zero_le _⟩) hS hA hD (fun H locs hP hD hS => ?_)
  refine lv_iload_n hx hb dX0_wouldGetEgg_14 rfl (lv_at hl 1 rfl) ?_
  refine lv_icmp_ne (tgt := 22) hx hb dX0_wouldGetEgg_15 (by decide) (fun hc => ?_) (fun hc => ?_)
  · have hf := if_f hf hc
    refine lv_iconst (v := (nI 0)) hx hb dX0_wouldGetEgg_22 (ic_0) ?_
    exact hB23 f_6 x1 x2 x3 x4 (nI 0) _ hf hK _ _ _ hP hD hS (lv_sub hl [0, 1, 2, 3, 4] rfl)
  · have hf := if_t hf hc
    refine lv_iconst (v := (nI 1)) hx hb dX0_wouldGetEgg_18 (ic_1) ?_
    refine lv_goto (tgt := 23) hx hb dX0_wouldGetEgg_19 (by decide) ?_
    exact hB23 f_6 x1 x2 x3 x4 (nI 1) _ hf hK _ _ _ hP hD hS (lv_sub hl [0, 1, 2, 3, 4] rfl)
noncomputable def p_X0_addToPlan (f : Mem) (x1 : Int32) (x2 : Int32) (x3 : Int32) (x4 : Int32) : Option (Int32 × Mem) :=
  if (f 0 2) < (nI 6) then
    (gd (inb (f 0 2) 6) <|
     bnd (upd (f 7) (f 0 2).toNatClampNeg x1) <| fun g20 =>
     gd (inb (f 0 2) 6) <|
     bnd (upd (f 8) (f 0 2).toNatClampNeg x2) <| fun g30 =>
     gd (inb (f 0 2) 6) <|
     bnd (upd (f 9) (f 0 2).toNatClampNeg x3) <| fun g40 =>
     gd (inb (f 0 2) 6) <|
     bnd (upd (f 10) (f 0 2).toNatClampNeg x4) <| fun g51 =>
     some ((nI 1), (mset 0 2 ((f 0 2) + (nI 1)) (mrow 10 (g51) (mrow 9 (g40) (mrow 8 (g30) (mrow 7 (g20) f)))))))
  else
    (some ((nI 0), f))
set_option maxHeartbeats 4000000 in
set_option maxRecDepth 100000 in
theorem c_X0_addToPlan (l : Launch) (G : Gt) (ad : Nat → Nat) (f : Mem) (x1 : Int32) (x2 : Int32) (x3 : Int32) (x4 : Int32) (r : Int32) (fz : Mem) (hf : p_X0_addToPlan f x1 x2 x3 x4 = some (r, fz)) (sz : Nat) : Met l yX0_addToPlan wsX0_addToPlan ({ frames := 1, cells := 0, slots := 0, locals := 12 }) (Pc0 G sz [.ref (ad 0), .int x1, .int x2, .int x3, .int x4] (wX0 G ad f)) (Qz0 G (va_A (wX0 G ad f) sz) r (wX0 G ad fz)) 0 0 (va_A (wX0 G ad f) sz) := by
  refine metP (Qf := fun A => Qz0 G A r (wX0 G ad fz)) cX0_addToPlan 5 (some .boolean) (by decide) rfl (Nat.le_of_ble_eq_true rfl) ?_
  intro p e s m below meth c A ls hC hr hlocks hin hE hA hsz hP hD hS hl
  generalize hargs : ([.ref (ad 0), .int x1, .int x2, .int x3, .int x4] : List Value).toArray = args at hC ⊢
  obtain ⟨hx, hb, hml, hown, hts⟩ := id hC
  have hT : va_K G.1 vwCl (tyL G) s := hE.1
  have hRet : ∀ (r9 : Int32) (f9 : Mem) (H : Heap) (locs : List Loc) (ls : Array Slot) (pc : Nat) (hK9 : (r9, f9) = (r, fz)) (hn9 : narrow .boolean (.int r9) = .int r9) (hdg : decode cX0_addToPlan pc = .ok (.ireturn, 1)), va_P G.1 vwCl (wX0 G ad f9) H → va_D A (wX0 G ad f9) → va_S A s.heap H locs → W p l e ({ frames := 1, cells := 0, slots := 0, locals := 12 }) s m args below meth c H locs 0 0 (MQ below (Qz0 G A r (wX0 G ad fz)) args s 0 0 A) (F0 m pc ls [.int r9]) := by
    intro r9 f9 H locs ls pc hK9 hn9 hdg hP hD hS
    cases hK9
    exact W.zret hx hb hr hn9 (fun t ht hW => ⟨⟨r, (), rfl, ⟨rfl, hn9⟩, by rw [ht]; exact hP, hD⟩, hS.F ht⟩) hS.2.2 hdg hlocks
  generalize MQ below (Qz0 G A r (wX0 G ad fz)) args s 0 0 A = Q at hRet ⊢
  have lk18 := hts (.fieldLink RX0 18 "FeatherShares$Flock" "trades" "I") (by decide +kernel)
  have inX0 : ∀ w ∈ u_ws RX0 TX0 13, w ∈ wsX0_addToPlan := by decide +kernel
  have lk40 := hts (.fieldLink RX0 40 "FeatherShares$Flock" "planBuyer" "[I") (by decide +kernel)
  have lk43 := hts (.fieldLink RX0 43 "FeatherShares$Flock" "planSeller" "[I") (by decide +kernel)
  have lk46 := hts (.fieldLink RX0 46 "FeatherShares$Flock" "planGoose" "[I") (by decide +kernel)
  have lk49 := hts (.fieldLink RX0 49 "FeatherShares$Flock" "planAmount" "[I") (by decide +kernel)
  have hl : lv_has ls 5 [(0, .ref (ad 0)), (1, .int x1), (2, .int x2), (3, .int x3), (4, .int x4)] := hl
  have hK0 : (r, fz) = (r, fz) := rfl
  obtain ⟨res, hres, hK⟩ : ∃ res, p_X0_addToPlan f x1 x2 x3 x4 = some res ∧ res = (r, fz) := ⟨_, hf, rfl⟩
  clear hf
  have hf := hres
  clear hres
  unfold p_X0_addToPlan at hf
  refine lv_aload_n hx hb dX0_addToPlan_0 rfl (lv_at hl 0 rfl) ?_
  refine va_get (C := RX0) (T := TX0) (N := 13) (ci := 0) (v := .int (f 0 2)) hx hb hts inX0 hown hT hP 0 rfl rfl 2 (Nat.le_of_ble_eq_true rfl) lk18 (fun _ h => h) rfl dX0_addToPlan_1 ?_
  refine lv_bipush (v := (nI 6)) hx hb dX0_addToPlan_4 (bi_6) ?_
  refine lv_icmp_lt (tgt := 11) hx hb dX0_addToPlan_6 (by decide) (fun hc => ?_) (fun hc => ?_)
  · have hf := if_t hf hc
    refine lv_aload_n hx hb dX0_addToPlan_11 rfl (lv_at hl 0 rfl) ?_
    refine va_get (C := RX0) (T := TX0) (N := 13) (ci := 0) (v := .ref (ad 7)) hx hb hts inX0 hown hT hP 0 rfl rfl 9 (Nat.le_of_ble_eq_true rfl) lk40 (fun _ h => h) rfl dX0_addToPlan_12 ?_
    refine lv_aload_n hx hb dX0_addToPlan_15 rfl (lv_at hl 0 rfl) ?_
    refine va_get (C := RX0) (T := TX0) (N := 13) (ci := 0) (v := .int (f 0 2)) hx hb hts inX0 hown hT hP 0 rfl rfl 2 (Nat.le_of_ble_eq_true rfl) lk18 (fun _ h => h) rfl dX0_addToPlan_16 ?_
    refine lv_iload_n hx hb dX0_addToPlan_19 rfl (lv_at hl 1 rfl) ?_
    obtain ⟨hg, hf⟩ := gd_e hf
    obtain ⟨g20, eg20, hf⟩ := bnd_e hf
    refine va_iast (f := f 7) hx hb hT hP hD hS 7 0 rfl rfl (inb_e hg) dX0_addToPlan_20 (fun H locs hP hD hS => ?_)
    rw [← eg20] at hP hD
    have hP : va_P G.1 vwCl (wX0 G ad (mrow 7 (g20) f)) H := hP
    have hD : va_D A (wX0 G ad (mrow 7 (g20) f)) := hD
    refine lv_aload_n hx hb dX0_addToPlan_21 rfl (lv_at hl 0 rfl) ?_
    refine va_get (C := RX0) (T := TX0) (N := 13) (ci := 0) (v := .ref (ad 8)) hx hb hts inX0 hown hT hP 0 rfl rfl 10 (Nat.le_of_ble_eq_true rfl) lk43 (fun _ h => h) rfl dX0_addToPlan_22 ?_
    refine lv_aload_n hx hb dX0_addToPlan_25 rfl (lv_at hl 0 rfl) ?_
    refine va_get (C := RX0) (T := TX0) (N := 13) (ci := 0) (v := .int (f 0 2)) hx hb hts inX0 hown hT hP 0 rfl rfl 2 (Nat.le_of_ble_eq_true rfl) lk18 (fun _ h => h) rfl dX0_addToPlan_26 ?_
    refine lv_iload_n hx hb dX0_addToPlan_29 rfl (lv_at hl 2 rfl) ?_
    obtain ⟨hg, hf⟩ := gd_e hf
    obtain ⟨g30, eg30, hf⟩ := bnd_e hf
    refine va_iast (f := f 8) hx hb hT hP hD hS 8 0 rfl rfl (inb_e hg) dX0_addToPlan_30 (fun H locs hP hD hS => ?_)
    rw [← eg30] at hP hD
    have hP : va_P G.1 vwCl (wX0 G ad (mrow 8 (g30) (mrow 7 (g20) f))) H := hP
    have hD : va_D A (wX0 G ad (mrow 8 (g30) (mrow 7 (g20) f))) := hD
    refine lv_aload_n hx hb dX0_addToPlan_31 rfl (lv_at hl 0 rfl) ?_
    refine va_get (C := RX0) (T := TX0) (N := 13) (ci := 0) (v := .ref (ad 9)) hx hb hts inX0 hown hT hP 0 rfl rfl 11 (Nat.le_of_ble_eq_true rfl) lk46 (fun _ h => h) rfl dX0_addToPlan_32 ?_
    refine lv_aload_n hx hb dX0_addToPlan_35 rfl (lv_at hl 0 rfl) ?_
    refine va_get (C := RX0) (T := TX0) (N := 13) (ci := 0) (v := .int (f 0 2)) hx hb hts inX0 hown hT hP 0 rfl rfl 2 (Nat.le_of_ble_eq_true rfl) lk18 (fun _ h => h) rfl dX0_addToPlan_36 ?_
    refine lv_iload_n hx hb dX0_addToPlan_39 rfl (lv_at hl 3 rfl) ?_
    obtain ⟨hg, hf⟩ := gd_e hf
    obtain ⟨g40, eg40, hf⟩ := bnd_e hf
    refine va_iast (f := f 9) hx hb hT hP hD hS 9 0 rfl rfl (inb_e hg) dX0_addToPlan_40 (fun H locs hP hD hS => ?_)
    rw [← eg40] at hP hD
    have hP : va_P G.1 vwCl (wX0 G ad (mrow 9 (g40) (mrow 8 (g30) (mrow 7 (g20) f)))) H := hP
    have hD : va_D A (wX0 G ad (mrow 9 (g40) (mrow 8 (g30) (mrow 7 (g20) f)))) := hD
    refine lv_aload_n hx hb dX0_addToPlan_41 rfl (lv_at hl 0 rfl) ?_
    refine va_get (C := RX0) (T := TX0) (N := 13) (ci := 0) (v := .ref (ad 10)) hx hb hts inX0 hown hT hP 0 rfl rfl 12 (Nat.le_of_ble_eq_true rfl) lk49 (fun _ h => h) rfl dX0_addToPlan_42 ?_
    refine lv_aload_n hx hb dX0_addToPlan_45 rfl (lv_at hl 0 rfl) ?_
    refine va_get (C := RX0) (T := TX0) (N := 13) (ci := 0) (v := .int (f 0 2)) hx hb hts inX0 hown hT hP 0 rfl rfl 2 (Nat.le_of_ble_eq_true rfl) lk18 (fun _ h => h) rfl dX0_addToPlan_46 ?_
    refine lv_iload hx hb dX0_addToPlan_49 (lv_at hl 4 rfl) ?_
    obtain ⟨hg, hf⟩ := gd_e hf
    obtain ⟨g51, eg51, hf⟩ := bnd_e hf
    refine va_iast (f := f 10) hx hb hT hP hD hS 10 0 rfl rfl (inb_e hg) dX0_addToPlan_51 (fun H locs hP hD hS => ?_)
    rw [← eg51] at hP hD
    have hP : va_P G.1 vwCl (wX0 G ad (mrow 10 (g51) (mrow 9 (g40) (mrow 8 (g30) (mrow 7 (g20) f))))) H := hP
    have hD : va_D A (wX0 G ad (mrow 10 (g51) (mrow 9 (g40) (mrow 8 (g30) (mrow 7 (g20) f))))) := hD
    refine lv_aload_n hx hb dX0_addToPlan_52 rfl (lv_at hl 0 rfl) ?_
    refine lv_dup hx hb dX0_addToPlan_53 rfl ?_
    refine va_get (C := RX0) (T := TX0) (N := 13) (ci := 0) (v := .int (f 0 2)) hx hb hts inX0 hown hT hP 0 rfl rfl 2 (Nat.le_of_ble_eq_true rfl) lk18 (fun _ h => h) rfl dX0_addToPlan_54 ?_
    refine lv_iconst (v := (nI 1)) hx hb dX0_addToPlan_57 (ic_1) ?_
    refine lv_iadd hx hb dX0_addToPlan_58 ?_
    refine va_put (C := RX0) (T := TX0) (N := 13) (ci := 0) (ty := .int) (v := .int ((f 0 2) + (nI 1))) hx hb hts inX0 tyX0 tyX0_ok nmX0 hown hT hP hD hS 0 rfl rfl 2 (Nat.le_of_ble_eq_true rfl) lk18 (fun _ h => h) rfl (by decide +kernel) rfl rfl (Nat.le_of_ble_eq_true rfl) dX0_addToPlan_59 (fun H locs hP hD hS => ?_)
    have hP : va_P G.1 vwCl (wX0 G ad (mset 0 2 ((f 0 2) + (nI 1)) (mrow 10 (g51) (mrow 9 (g40) (mrow 8 (g30) (mrow 7 (g20) f)))))) H := hP
    have hD : va_D A (wX0 G ad (mset 0 2 ((f 0 2) + (nI 1)) (mrow 10 (g51) (mrow 9 (g40) (mrow 8 (g30) (mrow 7 (g20) f)))))) := hD
    refine lv_iconst (v := (nI 1)) hx hb dX0_addToPlan_62 (ic_1) ?_
    have hK9 := K0_of hf hK
    exact hRet (nI 1) (mset 0 2 ((f 0 2) + (nI 1)) (mrow 10 (g51) (mrow 9 (g40) (mrow 8 (g30) (mrow 7 (g20) f))))) _ _ _ _ hK9 rfl dX0_addToPlan_63 hP hD hS
  · have hf := if_f hf hc
    refine lv_iconst (v := (nI 0)) hx hb dX0_addToPlan_9 (ic_0) ?_
    have hK9 := K0_of hf hK
    exact hRet (nI 0) f _ _ _ _ hK9 rfl dX0_addToPlan_10 hP hD hS
noncomputable def p_X0_tryPlanned (f : Mem) (x1 : Int32) : Option (Int32 × Mem) :=
  gd (inb x1 6) <|
  gd (inb x1 6) <|
  gd (inb x1 6) <|
  gd (inb x1 6) <|
  Option.bind (p_X0_tryTrade f (f 7 x1.toNatClampNeg) (f 8 x1.toNatClampNeg) (f 9 x1.toNatClampNeg) (f 10 x1.toNatClampNeg)) <| fun (r25, f_25) =>
  some (r25, f_25)
set_option maxHeartbeats 4000000 in
set_option maxRecDepth 100000 in
theorem c_X0_tryPlanned (l : Launch) (G : Gt) (ad : Nat → Nat) (f : Mem) (x1 : Int32) (r : Int32) (fz : Mem) (hf : p_X0_tryPlanned f x1 = some (r, fz)) (sz : Nat) : Met l yX0_tryPlanned wsX0_tryPlanned ({ frames := 5, cells := 0, slots := 0, locals := 107 }) (Pc0 G sz [.ref (ad 0), .int x1] (wX0 G ad f)) (Qz0 G (va_A (wX0 G ad f) sz) r (wX0 G ad fz)) 0 0 (va_A (wX0 G ad f) sz) := by
  refine metP (Qf := fun A => Qz0 G A r (wX0 G ad fz)) cX0_tryPlanned 2 (some .boolean) (by decide) rfl (Nat.le_of_ble_eq_true rfl) ?_
  intro p e s m below meth c A ls hC hr hlocks hin hE hA hsz hP hD hS hl
  generalize hargs : ([.ref (ad 0), .int x1] : List Value).toArray = args at hC ⊢
  obtain ⟨hx, hb, hml, hown, hts⟩ := id hC
  have hT : va_K G.1 vwCl (tyL G) s := hE.1
  have hRet : ∀ (r9 : Int32) (f9 : Mem) (H : Heap) (locs : List Loc) (ls : Array Slot) (pc : Nat) (hK9 : (r9, f9) = (r, fz)) (hn9 : narrow .boolean (.int r9) = .int r9) (hdg : decode cX0_tryPlanned pc = .ok (.ireturn, 1)), va_P G.1 vwCl (wX0 G ad f9) H → va_D A (wX0 G ad f9) → va_S A s.heap H locs → W p l e ({ frames := 5, cells := 0, slots := 0, locals := 107 }) s m args below meth c H locs 0 0 (MQ below (Qz0 G A r (wX0 G ad fz)) args s 0 0 A) (F0 m pc ls [.int r9]) := by
    intro r9 f9 H locs ls pc hK9 hn9 hdg hP hD hS
    cases hK9
    exact W.zret hx hb hr hn9 (fun t ht hW => ⟨⟨r, (), rfl, ⟨rfl, hn9⟩, by rw [ht]; exact hP, hD⟩, hS.F ht⟩) hS.2.2 hdg hlocks
  generalize MQ below (Qz0 G A r (wX0 G ad fz)) args s 0 0 A = Q at hRet ⊢
  have lk40 := hts (.fieldLink RX0 40 "FeatherShares$Flock" "planBuyer" "[I") (by decide +kernel)
  have inX0 : ∀ w ∈ u_ws RX0 TX0 13, w ∈ wsX0_tryPlanned := by decide +kernel
  have lk43 := hts (.fieldLink RX0 43 "FeatherShares$Flock" "planSeller" "[I") (by decide +kernel)
  have lk46 := hts (.fieldLink RX0 46 "FeatherShares$Flock" "planGoose" "[I") (by decide +kernel)
  have lk49 := hts (.fieldLink RX0 49 "FeatherShares$Flock" "planAmount" "[I") (by decide +kernel)
  have hl : lv_has ls 2 [(0, .ref (ad 0)), (1, .int x1)] := hl
  have hK0 : (r, fz) = (r, fz) := rfl
  obtain ⟨res, hres, hK⟩ : ∃ res, p_X0_tryPlanned f x1 = some res ∧ res = (r, fz) := ⟨_, hf, rfl⟩
  clear hf
  have hf := hres
  clear hres
  unfold p_X0_tryPlanned at hf
  refine lv_aload_n hx hb dX0_tryPlanned_0 rfl (lv_at hl 0 rfl) ?_
  refine lv_aload_n hx hb dX0_tryPlanned_1 rfl (lv_at hl 0 rfl) ?_
  refine va_get (C := RX0) (T := TX0) (N := 13) (ci := 0) (v := .ref (ad 7)) hx hb hts inX0 hown hT hP 0 rfl rfl 9 (Nat.le_of_ble_eq_true rfl) lk40 (fun _ h => h) rfl dX0_tryPlanned_2 ?_
  refine lv_iload_n hx hb dX0_tryPlanned_5 rfl (lv_at hl 1 rfl) ?_
  obtain ⟨hg, hf⟩ := gd_e hf
  refine va_iald (f := f 7) hx hb hT hP 7 0 rfl rfl (inb_e hg) dX0_tryPlanned_6 ?_
  refine lv_aload_n hx hb dX0_tryPlanned_7 rfl (lv_at hl 0 rfl) ?_
  refine va_get (C := RX0) (T := TX0) (N := 13) (ci := 0) (v := .ref (ad 8)) hx hb hts inX0 hown hT hP 0 rfl rfl 10 (Nat.le_of_ble_eq_true rfl) lk43 (fun _ h => h) rfl dX0_tryPlanned_8 ?_
  refine lv_iload_n hx hb dX0_tryPlanned_11 rfl (lv_at hl 1 rfl) ?_
  obtain ⟨hg, hf⟩ := gd_e hf
  refine va_iald (f := f 8) hx hb hT hP 8 0 rfl rfl (inb_e hg) dX0_tryPlanned_12 ?_
  refine lv_aload_n hx hb dX0_tryPlanned_13 rfl (lv_at hl 0 rfl) ?_
  refine va_get (C := RX0) (T := TX0) (N := 13) (ci := 0) (v := .ref (ad 9)) hx hb hts inX0 hown hT hP 0 rfl rfl 11 (Nat.le_of_ble_eq_true rfl) lk46 (fun _ h => h) rfl dX0_tryPlanned_14 ?_
  refine lv_iload_n hx hb dX0_tryPlanned_17 rfl (lv_at hl 1 rfl) ?_
  obtain ⟨hg, hf⟩ := gd_e hf
  refine va_iald (f := f 9) hx hb hT hP 9 0 rfl rfl (inb_e hg) dX0_tryPlanned_18 ?_
  refine lv_aload_n hx hb dX0_tryPlanned_19 rfl (lv_at hl 0 rfl) ?_
  refine va_get (C := RX0) (T := TX0) (N := 13) (ci := 0) (v := .ref (ad 10)) hx hb hts inX0 hown hT hP 0 rfl rfl 12 (Nat.le_of_ble_eq_true rfl) lk49 (fun _ h => h) rfl dX0_tryPlanned_20 ?_
  refine lv_iload_n hx hb dX0_tryPlanned_23 rfl (lv_at hl 1 rfl) ?_
  obtain ⟨hg, hf⟩ := gd_e hf
  refine va_iald (f := f 10) hx hb hT hP 10 0 rfl rfl (inb_e hg) dX0_tryPlanned_24 ?_
  obtain ⟨⟨r25, f_25⟩, hc25, hf⟩ := bd_e hf
  try dsimp only at hf
  refine cl_z_same (Wd := (wX0 G ad f)) (W' := (wX0 G ad f_25)) (va_runV (As := [.int (f 7 x1.toNatClampNeg), .int (f 8 x1.toNatClampNeg), .int (f 9 x1.toNatClampNeg), .int (f 10 x1.toNatClampNeg)]) (rest := []) hC (c_X0_tryTrade l G ad f (f 7 x1.toNatClampNeg) (f 8 x1.toNatClampNeg) (f 9 x1.toNatClampNeg) (f 10 x1.toNatClampNeg) r25 f_25 hc25 _) (cwV 4 hts gX0_tryPlanned_X0_tryTrade rfl rfl rfl (by decide +kernel) ⟨Nat.le_of_ble_eq_true rfl, Nat.le_of_ble_eq_true rfl⟩) ⟨Pc0_blind, va_recv hT hP (q0 := 0) (ci := 0) rfl rfl, fun U hU hW => Pc0_at hE hP hD hU hW⟩ rfl rfl hl.1 rfl (lv_room (Nat.le_of_ble_eq_true rfl)) dX0_tryPlanned_25 ⟨Nat.zero_le _, Nat.zero_le _⟩) hS hA hD (fun H locs hn25 hP hD hS => ?_)
  have hK9 := K0_of hf hK
  exact hRet r25 f_25 _ _ _ _ hK9 hn25 dX0_tryPlanned_28 hP hD hS
noncomputable def p_X0_costOfPlanned (f : Mem) (x1 : Int32) : Option (Int32) :=
  gd (inb x1 6) <|
  gd (inb x1 6) <|
  gd (inb (f 9 x1.toNatClampNeg) 3) <|
  some ((f 10 x1.toNatClampNeg) * (f 3 (f 9 x1.toNatClampNeg).toNatClampNeg))
set_option maxHeartbeats 4000000 in
set_option maxRecDepth 100000 in
theorem c_X0_costOfPlanned (l : Launch) (G : Gt) (ad : Nat → Nat) (f : Mem) (x1 : Int32) (r : Int32) (hf : p_X0_costOfPlanned f x1 = some r) (sz : Nat) : Met l yX0_costOfPlanned wsX0_costOfPlanned ({ frames := 1, cells := 0, slots := 0, locals := 12 }) (Pc0 G sz [.ref (ad 0), .int x1] (wX0 G ad f)) (Qi0 G (va_A (wX0 G ad f) sz) r (wX0 G ad f)) 0 0 (va_A (wX0 G ad f) sz) := by
  refine metP (Qf := fun A => Qi0 G A r (wX0 G ad f)) cX0_costOfPlanned 2 (some .int) (by decide) rfl (Nat.le_of_ble_eq_true rfl) ?_
  intro p e s m below meth c A ls hC hr hlocks hin hE hA hsz hP hD hS hl
  generalize hargs : ([.ref (ad 0), .int x1] : List Value).toArray = args at hC ⊢
  obtain ⟨hx, hb, hml, hown, hts⟩ := id hC
  have hT : va_K G.1 vwCl (tyL G) s := hE.1
  have hRet : ∀ (r9 : Int32) (H : Heap) (locs : List Loc) (ls : Array Slot) (pc : Nat) (hK9 : r9 = r) (hdg : decode cX0_costOfPlanned pc = .ok (.ireturn, 1)), va_P G.1 vwCl (wX0 G ad f) H → va_D A (wX0 G ad f) → va_S A s.heap H locs → W p l e ({ frames := 1, cells := 0, slots := 0, locals := 12 }) s m args below meth c H locs 0 0 (MQ below (Qi0 G A r (wX0 G ad f)) args s 0 0 A) (F0 m pc ls [.int r9]) := by
    intro r9 H locs ls pc hK9 hdg hP hD hS
    cases hK9
    exact W.iret hx hb hr (fun t ht hW => ⟨⟨r, (), rfl, rfl, by rw [ht]; exact hP, hD⟩, hS.F ht⟩) hS.2.2 hdg hlocks
  generalize MQ below (Qi0 G A r (wX0 G ad f)) args s 0 0 A = Q at hRet ⊢
  have lk49 := hts (.fieldLink RX0 49 "FeatherShares$Flock" "planAmount" "[I") (by decide +kernel)
  have inX0 : ∀ w ∈ u_ws RX0 TX0 13, w ∈ wsX0_costOfPlanned := by decide +kernel
  have lk28 := hts (.fieldLink RX0 28 "FeatherShares$Flock" "price" "[I") (by decide +kernel)
  have lk46 := hts (.fieldLink RX0 46 "FeatherShares$Flock" "planGoose" "[I") (by decide +kernel)
  have hl : lv_has ls 2 [(0, .ref (ad 0)), (1, .int x1)] := hl
  have hK0 : r = r := rfl
  obtain ⟨res, hres, hK⟩ : ∃ res, p_X0_costOfPlanned f x1 = some res ∧ res = r := ⟨_, hf, rfl⟩
  clear hf
  have hf := hres
  clear hres
  unfold p_X0_costOfPlanned at hf
  refine lv_aload_n hx hb dX0_costOfPlanned_0 rfl (lv_at hl 0 rfl) ?_
  refine va_get (C := RX0) (T := TX0) (N := 13) (ci := 0) (v := .ref (ad 10)) hx hb hts inX0 hown hT hP 0 rfl rfl 12 (Nat.le_of_ble_eq_true rfl) lk49 (fun _ h => h) rfl dX0_costOfPlanned_1 ?_
  refine lv_iload_n hx hb dX0_costOfPlanned_4 rfl (lv_at hl 1 rfl) ?_
  obtain ⟨hg, hf⟩ := gd_e hf
  refine va_iald (f := f 10) hx hb hT hP 10 0 rfl rfl (inb_e hg) dX0_costOfPlanned_5 ?_
  refine lv_aload_n hx hb dX0_costOfPlanned_6 rfl (lv_at hl 0 rfl) ?_
  refine va_get (C := RX0) (T := TX0) (N := 13) (ci := 0) (v := .ref (ad 3)) hx hb hts inX0 hown hT hP 0 rfl rfl 5 (Nat.le_of_ble_eq_true rfl) lk28 (fun _ h => h) rfl dX0_costOfPlanned_7 ?_
  refine lv_aload_n hx hb dX0_costOfPlanned_10 rfl (lv_at hl 0 rfl) ?_
  refine va_get (C := RX0) (T := TX0) (N := 13) (ci := 0) (v := .ref (ad 9)) hx hb hts inX0 hown hT hP 0 rfl rfl 11 (Nat.le_of_ble_eq_true rfl) lk46 (fun _ h => h) rfl dX0_costOfPlanned_11 ?_
  refine lv_iload_n hx hb dX0_costOfPlanned_14 rfl (lv_at hl 1 rfl) ?_
  obtain ⟨hg, hf⟩ := gd_e hf
  refine va_iald (f := f 9) hx hb hT hP 9 0 rfl rfl (inb_e hg) dX0_costOfPlanned_15 ?_
  obtain ⟨hg, hf⟩ := gd_e hf
  refine va_iald (f := f 3) hx hb hT hP 3 0 rfl rfl (inb_e hg) dX0_costOfPlanned_16 ?_
  refine lv_imul hx hb dX0_costOfPlanned_17 ?_
  have hK9 := K0_of hf hK
  exact hRet ((f 10 x1.toNatClampNeg) * (f 3 (f 9 x1.toNatClampNeg).toNatClampNeg)) _ _ _ _ hK9 dX0_costOfPlanned_18 hP hD hS
noncomputable def p_X0_followPlanWithout_L2 (x1 : Int32) (z : Int32 × Mem) : Option ((Int32 × Mem) ⊕ Mem) :=
  match z with
  | (x2, f_) =>
    if (f_ 0 2) ≤ x2 then
      (some (Sum.inr f_))
    else
      (if x2 = x1 then
         (some (Sum.inl ((x2 + nI 1), f_)))
       else
         (Option.bind (p_X0_tryPlanned f_ x2) <| fun (r17, f_17) =>
          some (Sum.inl ((x2 + nI 1), f_17))))
noncomputable def p_X0_followPlanWithout (f : Mem) (x1 : Int32) : Option (Mem) :=
  Option.bind (lp (p_X0_followPlanWithout_L2 x1) ((nI 0), f)) <| fun f_2 =>
  some f_2
set_option maxHeartbeats 4000000 in
set_option maxRecDepth 100000 in
theorem c_X0_followPlanWithout (l : Launch) (G : Gt) (ad : Nat → Nat) (f : Mem) (x1 : Int32) (fz : Mem) (hf : p_X0_followPlanWithout f x1 = some fz) (sz : Nat) : Met l yX0_followPlanWithout wsX0_followPlanWithout ({ frames := 6, cells := 0, slots := 0, locals := 128 }) (Pc0 G sz [.ref (ad 0), .int x1] (wX0 G ad f)) (Qv0 G (va_A (wX0 G ad f) sz) (wX0 G ad fz)) 0 0 (va_A (wX0 G ad f) sz) := by
  refine metP (Qf := fun A => Qv0 G A (wX0 G ad fz)) cX0_followPlanWithout 3 (none) (by decide) rfl (Nat.le_of_ble_eq_true rfl) ?_
  intro p e s m below meth c A ls hC hr hlocks hin hE hA hsz hP hD hS hl
  generalize hargs : ([.ref (ad 0), .int x1] : List Value).toArray = args at hC ⊢
  obtain ⟨hx, hb, hml, hown, hts⟩ := id hC
  have hT : va_K G.1 vwCl (tyL G) s := hE.1
  have hRet : ∀ (f9 : Mem) (H : Heap) (locs : List Loc) (ls : Array Slot) (pc : Nat) (hK9 : f9 = fz) (hdg : decode cX0_followPlanWithout pc = .ok (.return_, 1)), va_P G.1 vwCl (wX0 G ad f9) H → va_D A (wX0 G ad f9) → va_S A s.heap H locs → W p l e ({ frames := 6, cells := 0, slots := 0, locals := 128 }) s m args below meth c H locs 0 0 (MQ below (Qv0 G A (wX0 G ad fz)) args s 0 0 A) (F0 m pc ls []) := by
    intro f9 H locs ls pc hK9 hdg hP hD hS
    cases hK9
    exact W.vret hx hb hr (fun t ht hW => ⟨⟨(), rfl, trivial, by rw [ht]; exact hP, hD⟩, hS.F ht⟩) hS.2.2 hdg hlocks
  generalize MQ below (Qv0 G A (wX0 G ad fz)) args s 0 0 A = Q at hRet ⊢
  have lk18 := hts (.fieldLink RX0 18 "FeatherShares$Flock" "trades" "I") (by decide +kernel)
  have inX0 : ∀ w ∈ u_ws RX0 TX0 13, w ∈ wsX0_followPlanWithout := by decide +kernel
  have hl : lv_has ls 3 [(0, .ref (ad 0)), (1, .int x1)] := hl
  have hK0 : fz = fz := rfl
  obtain ⟨res, hres, hK⟩ : ∃ res, p_X0_followPlanWithout f x1 = some res ∧ res = fz := ⟨_, hf, rfl⟩
  clear hf
  have hf := hres
  clear hres
  unfold p_X0_followPlanWithout at hf
  refine lv_iconst (v := (nI 0)) hx hb dX0_followPlanWithout_0 (ic_0) ?_
  refine lv_istore_n (lv' := [(2, .int (nI 0)), (0, .ref (ad 0)), (1, .int x1)]) hx hb dX0_followPlanWithout_1 rfl hl (by decide) rfl (fun ls hl => ?_)
  obtain ⟨f_2, hlp, hf⟩ := bd_e hf
  refine lp_W1 (p_X0_followPlanWithout_L2 x1) (fun z => match z with | (x2, f_) => ∀ (H : Heap) (locs : List Loc) (ls : Array Slot), va_P G.1 vwCl (wX0 G ad f_) H → va_D A (wX0 G ad f_) → va_S A s.heap H locs → lv_has ls 3 [(0, .ref (ad 0)), (1, .int x1), (2, .int x2)] → W p l e ({ frames := 6, cells := 0, slots := 0, locals := 128 }) s m args below meth c H locs 0 0 Q (F0 m 2 ls [])) (fun (f_2 : Mem) => ∀ (H : Heap) (locs : List Loc) (ls : Array Slot), va_P G.1 vwCl (wX0 G ad f_2) H → va_D A (wX0 G ad f_2) → va_S A s.heap H locs → lv_has ls 3 [] → W p l e ({ frames := 6, cells := 0, slots := 0, locals := 128 }) s m args below meth c H locs 0 0 Q (F0 m 27 ls [])) ?_ hlp ?_ _ _ _ hP hD hS (lv_sub hl [1, 2, 0] rfl)
  · clear hlp hf hK hP hD hS hl
    intro K2 hW2 hX2 
    rintro ⟨x2, f_⟩ res hf hK H locs ls hP hD hS hl
    unfold p_X0_followPlanWithout_L2 at hf
    dsimp only at hf
    refine lv_iload_n hx hb dX0_followPlanWithout_2 rfl (lv_at hl 2 rfl) ?_
    refine lv_aload_n hx hb dX0_followPlanWithout_3 rfl (lv_at hl 0 rfl) ?_
    refine va_get (C := RX0) (T := TX0) (N := 13) (ci := 0) (v := .int (f_ 0 2)) hx hb hts inX0 hown hT hP 0 rfl rfl 2 (Nat.le_of_ble_eq_true rfl) lk18 (fun _ h => h) rfl dX0_followPlanWithout_4 ?_
    refine lv_icmp_ge (tgt := 27) hx hb dX0_followPlanWithout_7 (by decide) (fun hc => ?_) (fun hc => ?_)
    · have hf := if_t hf hc
      have hK9 := K_of hf hK
      have hK9 := hX2 _ hK9
      exact hK9 _ _ _ hP hD hS (lv_sub hl [] rfl)
    · have hf := if_f hf hc
      refine lv_iload_n hx hb dX0_followPlanWithout_10 rfl (lv_at hl 2 rfl) ?_
      refine lv_iload_n hx hb dX0_followPlanWithout_11 rfl (lv_at hl 1 rfl) ?_
      refine lv_icmp_eq (tgt := 21) hx hb dX0_followPlanWithout_12 (by decide) (fun hc => ?_) (fun hc => ?_)
      · have hf := if_t hf hc
        refine lv_iinc (v := (x2 + nI 1)) (lv' := [(2, .int (x2 + nI 1)), (0, .ref (ad 0)), (1, .int x1)]) hx hb dX0_followPlanWithout_21 hl (k := 2) rfl (ii_x 1 _) (by decide) rfl (fun ls hl => ?_)
        refine lv_goto (tgt := 2) hx hb dX0_followPlanWithout_24 (by decide) ?_
        have hK9 := K_of hf hK
        have hK9 := hW2 _ hK9
        exact hK9 _ _ _ hP hD hS (lv_sub hl [1, 2, 0] rfl)
      · have hf := if_f hf hc
        refine lv_aload_n hx hb dX0_followPlanWithout_15 rfl (lv_at hl 0 rfl) ?_
        refine lv_iload_n hx hb dX0_followPlanWithout_16 rfl (lv_at hl 2 rfl) ?_
        obtain ⟨⟨r17, f_17⟩, hc17, hf⟩ := bd_e hf
        try dsimp only at hf
        refine cl_z_same (Wd := (wX0 G ad f_)) (W' := (wX0 G ad f_17)) (va_runV (As := [.int x2]) (rest := []) hC (c_X0_tryPlanned l G ad f_ x2 r17 f_17 hc17 _) (cwV 1 hts gX0_followPlanWithout_X0_tryPlanned rfl rfl rfl (by decide +kernel) ⟨Nat.le_of_ble_eq_true rfl, Nat.le_of_ble_eq_true rfl⟩) ⟨Pc0_blind, va_recv hT hP (q0 := 0) (ci := 0) rfl rfl, fun U hU hW => Pc0_at hE hP hD hU hW⟩ rfl rfl hl.1 rfl (lv_room (Nat.le_of_ble_eq_true rfl)) dX0_followPlanWithout_17 ⟨Nat.zero_le _, Nat.zero_le _⟩) hS hA hD (fun H locs hn17 hP hD hS => ?_)
        refine lv_pop hx hb dX0_followPlanWithout_20 rfl ?_
        refine lv_iinc (v := (x2 + nI 1)) (lv' := [(2, .int (x2 + nI 1)), (0, .ref (ad 0)), (1, .int x1)]) hx hb dX0_followPlanWithout_21 hl (k := 2) rfl (ii_x 1 _) (by decide) rfl (fun ls hl => ?_)
        refine lv_goto (tgt := 2) hx hb dX0_followPlanWithout_24 (by decide) ?_
        have hK9 := K_of hf hK
        have hK9 := hW2 _ hK9
        exact hK9 _ _ _ hP hD hS (lv_sub hl [1, 2, 0] rfl)
  · try dsimp only at hf
    show ∀ (H : Heap) (locs : List Loc) (ls : Array Slot), va_P G.1 vwCl (wX0 G ad f_2) H → va_D A (wX0 G ad f_2) → va_S A s.heap H locs → lv_has ls 3 [] → W p l e ({ frames := 6, cells := 0, slots := 0, locals := 128 }) s m args below meth c H locs 0 0 Q (F0 m 27 ls [])
    intro H locs ls hP hD hS hl
    have hK9 := K0_of hf hK
    exact hRet f_2 _ _ _ _ hK9 dX0_followPlanWithout_27 hP hD hS
noncomputable def p_X0_feathersOfPlan_L4 (f : Mem) (z : Int32 × Int32) : Option ((Int32 × Int32) ⊕ Int32) :=
  match z with
  | (x1, x2) =>
    if (f 0 2) ≤ x2 then
      (some (Sum.inr x1))
    else
      (gd (inb x2 6) <|
       some (Sum.inl ((x1 + (f 10 x2.toNatClampNeg)), (x2 + nI 1))))
noncomputable def p_X0_feathersOfPlan (f : Mem) : Option (Int32) :=
  Option.bind (lp (p_X0_feathersOfPlan_L4 f) ((nI 0), (nI 0))) <| fun y1_4 =>
  some y1_4
set_option maxHeartbeats 4000000 in
set_option maxRecDepth 100000 in
theorem c_X0_feathersOfPlan (l : Launch) (G : Gt) (ad : Nat → Nat) (f : Mem) (r : Int32) (hf : p_X0_feathersOfPlan f = some r) (sz : Nat) : Met l yX0_feathersOfPlan wsX0_feathersOfPlan ({ frames := 1, cells := 0, slots := 0, locals := 12 }) (Pc0 G sz [.ref (ad 0)] (wX0 G ad f)) (Qi0 G (va_A (wX0 G ad f) sz) r (wX0 G ad f)) 0 0 (va_A (wX0 G ad f) sz) := by
  refine metP (Qf := fun A => Qi0 G A r (wX0 G ad f)) cX0_feathersOfPlan 3 (some .int) (by decide) rfl (Nat.le_of_ble_eq_true rfl) ?_
  intro p e s m below meth c A ls hC hr hlocks hin hE hA hsz hP hD hS hl
  generalize hargs : ([.ref (ad 0)] : List Value).toArray = args at hC ⊢
  obtain ⟨hx, hb, hml, hown, hts⟩ := id hC
  have hT : va_K G.1 vwCl (tyL G) s := hE.1
  have hRet : ∀ (r9 : Int32) (H : Heap) (locs : List Loc) (ls : Array Slot) (pc : Nat) (hK9 : r9 = r) (hdg : decode cX0_feathersOfPlan pc = .ok (.ireturn, 1)), va_P G.1 vwCl (wX0 G ad f) H → va_D A (wX0 G ad f) → va_S A s.heap H locs → W p l e ({ frames := 1, cells := 0, slots := 0, locals := 12 }) s m args below meth c H locs 0 0 (MQ below (Qi0 G A r (wX0 G ad f)) args s 0 0 A) (F0 m pc ls [.int r9]) := by
    intro r9 H locs ls pc hK9 hdg hP hD hS
    cases hK9
    exact W.iret hx hb hr (fun t ht hW => ⟨⟨r, (), rfl, rfl, by rw [ht]; exact hP, hD⟩, hS.F ht⟩) hS.2.2 hdg hlocks
  generalize MQ below (Qi0 G A r (wX0 G ad f)) args s 0 0 A = Q at hRet ⊢
  have lk18 := hts (.fieldLink RX0 18 "FeatherShares$Flock" "trades" "I") (by decide +kernel)
  have inX0 : ∀ w ∈ u_ws RX0 TX0 13, w ∈ wsX0_feathersOfPlan := by decide +kernel
  have lk49 := hts (.fieldLink RX0 49 "FeatherShares$Flock" "planAmount" "[I") (by decide +kernel)
  have hl : lv_has ls 3 [(0, .ref (ad 0))] := hl
  have hK0 : r = r := rfl
  obtain ⟨res, hres, hK⟩ : ∃ res, p_X0_feathersOfPlan f = some res ∧ res = r := ⟨_, hf, rfl⟩
  clear hf
  have hf := hres
  clear hres
  unfold p_X0_feathersOfPlan at hf
  refine lv_iconst (v := (nI 0)) hx hb dX0_feathersOfPlan_0 (ic_0) ?_
  refine lv_istore_n (lv' := [(1, .int (nI 0)), (0, .ref (ad 0))]) hx hb dX0_feathersOfPlan_1 rfl hl (by decide) rfl (fun ls hl => ?_)
  refine lv_iconst (v := (nI 0)) hx hb dX0_feathersOfPlan_2 (ic_0) ?_
  refine lv_istore_n (lv' := [(2, .int (nI 0)), (1, .int (nI 0)), (0, .ref (ad 0))]) hx hb dX0_feathersOfPlan_3 rfl hl (by decide) rfl (fun ls hl => ?_)
  obtain ⟨y1_4, hlp, hf⟩ := bd_e hf
  refine lp_W1 (p_X0_feathersOfPlan_L4 f) (fun z => match z with | (x1, x2) => ∀ (H : Heap) (locs : List Loc) (ls : Array Slot), va_P G.1 vwCl (wX0 G ad f) H → va_D A (wX0 G ad f) → va_S A s.heap H locs → lv_has ls 3 [(0, .ref (ad 0)), (1, .int x1), (2, .int x2)] → W p l e ({ frames := 1, cells := 0, slots := 0, locals := 12 }) s m args below meth c H locs 0 0 Q (F0 m 4 ls [])) (fun (y1_4 : Int32) => ∀ (H : Heap) (locs : List Loc) (ls : Array Slot), va_P G.1 vwCl (wX0 G ad f) H → va_D A (wX0 G ad f) → va_S A s.heap H locs → lv_has ls 3 [(1, .int y1_4)] → W p l e ({ frames := 1, cells := 0, slots := 0, locals := 12 }) s m args below meth c H locs 0 0 Q (F0 m 27 ls [])) ?_ hlp ?_ _ _ _ hP hD hS (lv_sub hl [2, 1, 0] rfl)
  · clear hlp hf hK hP hD hS hl
    intro K4 hW4 hX4 
    rintro ⟨x1, x2⟩ res hf hK H locs ls hP hD hS hl
    unfold p_X0_feathersOfPlan_L4 at hf
    dsimp only at hf
    refine lv_iload_n hx hb dX0_feathersOfPlan_4 rfl (lv_at hl 2 rfl) ?_
    refine lv_aload_n hx hb dX0_feathersOfPlan_5 rfl (lv_at hl 0 rfl) ?_
    refine va_get (C := RX0) (T := TX0) (N := 13) (ci := 0) (v := .int (f 0 2)) hx hb hts inX0 hown hT hP 0 rfl rfl 2 (Nat.le_of_ble_eq_true rfl) lk18 (fun _ h => h) rfl dX0_feathersOfPlan_6 ?_
    refine lv_icmp_ge (tgt := 27) hx hb dX0_feathersOfPlan_9 (by decide) (fun hc => ?_) (fun hc => ?_)
    · have hf := if_t hf hc
      have hK9 := K_of hf hK
      have hK9 := hX4 _ hK9
      exact hK9 _ _ _ hP hD hS (lv_sub hl [1] rfl)
    · have hf := if_f hf hc
      refine lv_iload_n hx hb dX0_feathersOfPlan_12 rfl (lv_at hl 1 rfl) ?_
      refine lv_aload_n hx hb dX0_feathersOfPlan_13 rfl (lv_at hl 0 rfl) ?_
      refine va_get (C := RX0) (T := TX0) (N := 13) (ci := 0) (v := .ref (ad 10)) hx hb hts inX0 hown hT hP 0 rfl rfl 12 (Nat.le_of_ble_eq_true rfl) lk49 (fun _ h => h) rfl dX0_feathersOfPlan_14 ?_
      refine lv_iload_n hx hb dX0_feathersOfPlan_17 rfl (lv_at hl 2 rfl) ?_
      obtain ⟨hg, hf⟩ := gd_e hf
      refine va_iald (f := f 10) hx hb hT hP 10 0 rfl rfl (inb_e hg) dX0_feathersOfPlan_18 ?_
      refine lv_iadd hx hb dX0_feathersOfPlan_19 ?_
      refine lv_istore_n (lv' := [(1, .int (x1 + (f 10 x2.toNatClampNeg))), (0, .ref (ad 0)), (2, .int x2)]) hx hb dX0_feathersOfPlan_20 rfl hl (by decide) rfl (fun ls hl => ?_)
      refine lv_iinc (v := (x2 + nI 1)) (lv' := [(2, .int (x2 + nI 1)), (1, .int (x1 + (f 10 x2.toNatClampNeg))), (0, .ref (ad 0))]) hx hb dX0_feathersOfPlan_21 hl (k := 2) rfl (ii_x 1 _) (by decide) rfl (fun ls hl => ?_)
      refine lv_goto (tgt := 4) hx hb dX0_feathersOfPlan_24 (by decide) ?_
      have hK9 := K_of hf hK
      have hK9 := hW4 _ hK9
      exact hK9 _ _ _ hP hD hS (lv_sub hl [2, 1, 0] rfl)
  · try dsimp only at hf
    show ∀ (H : Heap) (locs : List Loc) (ls : Array Slot), va_P G.1 vwCl (wX0 G ad f) H → va_D A (wX0 G ad f) → va_S A s.heap H locs → lv_has ls 3 [(1, .int y1_4)] → W p l e ({ frames := 1, cells := 0, slots := 0, locals := 12 }) s m args below meth c H locs 0 0 Q (F0 m 27 ls [])
    intro H locs ls hP hD hS hl
    refine lv_iload_n hx hb dX0_feathersOfPlan_27 rfl (lv_at hl 0 rfl) ?_
    have hK9 := K0_of hf hK
    exact hRet y1_4 _ _ _ _ hK9 dX0_feathersOfPlan_28 hP hD hS
noncomputable def p_X0_lossOf (x0 : Int32) (x1 : Int32) : Option (Int32) :=
  if x0 = (nI 0) then
    (some (x1 / (nI 8)))
  else if x0 = (nI 1) then
    (some (if (((nI 2) * (x1 / (nI 8))) + (nI 1)) < x1 then (((nI 2) * (x1 / (nI 8))) + (nI 1)) else x1))
  else if x0 = (nI 2) then
    (some ((if (((nI 2) * (x1 / (nI 8))) + (nI 1)) < x1 then (((nI 2) * (x1 / (nI 8))) + (nI 1)) else x1) / (nI 2)))
  else if x0 = (nI 3) then
    (some (if (nI 0) < ((x1 / (nI 8)) - (nI 1)) then ((x1 / (nI 8)) - (nI 1)) else (nI 0)))
  else
    (some (nI 0))
set_option maxHeartbeats 4000000 in
set_option maxRecDepth 100000 in
theorem c_X0_lossOf (l : Launch) (G : Gt)  (x0 : Int32) (x1 : Int32) (r : Int32) (hf : p_X0_lossOf x0 x1 = some r) (sz : Nat) : Met l yX0_lossOf wsX0_lossOf ({ frames := 1, cells := 0, slots := 0, locals := 40 }) (Pc0 G sz [.int x0, .int x1] ([] : va_W)) (Qi0 G (va_A ([] : va_W) sz) r ([] : va_W)) 0 0 (va_A ([] : va_W) sz) := by
  refine metP (Qf := fun A => Qi0 G A r ([] : va_W)) cX0_lossOf 4 (some .int) (by decide) rfl (Nat.le_of_ble_eq_true rfl) ?_
  intro p e s m below meth c A ls hC hr hlocks hin hE hA hsz hP hD hS hl
  generalize hargs : ([.int x0, .int x1] : List Value).toArray = args at hC ⊢
  obtain ⟨hx, hb, hml, hown, hts⟩ := id hC
  have hT : va_K G.1 vwCl (tyL G) s := hE.1
  have hRet : ∀ (r9 : Int32) (H : Heap) (locs : List Loc) (ls : Array Slot) (pc : Nat) (hK9 : r9 = r) (hdg : decode cX0_lossOf pc = .ok (.ireturn, 1)), va_P G.1 vwCl ([] : va_W) H → va_D A ([] : va_W) → va_S A s.heap H locs → W p l e ({ frames := 1, cells := 0, slots := 0, locals := 40 }) s m args below meth c H locs 0 0 (MQ below (Qi0 G A r ([] : va_W)) args s 0 0 A) (F0 m pc ls [.int r9]) := by
    intro r9 H locs ls pc hK9 hdg hP hD hS
    cases hK9
    exact W.iret hx hb hr (fun t ht hW => ⟨⟨r, (), rfl, rfl, by rw [ht]; exact hP, hD⟩, hS.F ht⟩) hS.2.2 hdg hlocks
  generalize MQ below (Qi0 G A r ([] : va_W)) args s 0 0 A = Q at hRet ⊢
  have hl : lv_has ls 4 [(0, .int x0), (1, .int x1)] := hl
  have hK0 : r = r := rfl
  obtain ⟨res, hres, hK⟩ : ∃ res, p_X0_lossOf x0 x1 = some res ∧ res = r := ⟨_, hf, rfl⟩
  clear hf
  have hf := hres
  clear hres
  unfold p_X0_lossOf at hf
  refine lv_iload_n hx hb dX0_lossOf_0 rfl (lv_at hl 1 rfl) ?_
  refine lv_bipush (v := (nI 8)) hx hb dX0_lossOf_1 (bi_8) ?_
  refine lv_idiv hx hb dX0_lossOf_3 (by decide) ?_
  refine lv_istore_n (lv' := [(2, .int (x1 / (nI 8))), (0, .int x0), (1, .int x1)]) hx hb dX0_lossOf_4 rfl hl (by decide) rfl (fun ls hl => ?_)
  refine lv_iload_n hx hb dX0_lossOf_5 rfl (lv_at hl 2 rfl) ?_
  refine lv_iconst (v := (nI 2)) hx hb dX0_lossOf_6 (ic_2) ?_
  refine lv_iload_n hx hb dX0_lossOf_7 rfl (lv_at hl 0 rfl) ?_
  refine lv_imul hx hb dX0_lossOf_8 ?_
  refine lv_iconst (v := (nI 1)) hx hb dX0_lossOf_9 (ic_1) ?_
  refine lv_iadd hx hb dX0_lossOf_10 ?_
  refine va_mmin hx hb (hml.trans hl.1.symm) hown (hts (.methodLink RX0 126 Lib.Math.min.name) (by decide +kernel)) (hts (.static Lib.Math.min.name) (by decide +kernel)) (hts (.initialized "java/lang/Math") (by decide +kernel)) (hts (.code Lib.Math.min.name Lib.Math.min.code 2 (some .int)) (by decide +kernel)) (Nat.le_of_ble_eq_true rfl) (Nat.le_of_ble_eq_true rfl) (Nat.zero_le _) (Nat.zero_le _) dX0_lossOf_11 ?_
  refine lv_istore_n (lv' := [(3, .int (if (((nI 2) * (x1 / (nI 8))) + (nI 1)) < x1 then (((nI 2) * (x1 / (nI 8))) + (nI 1)) else x1)), (2, .int (x1 / (nI 8))), (0, .int x0), (1, .int x1)]) hx hb dX0_lossOf_14 rfl hl (by decide) rfl (fun ls hl => ?_)
  refine lv_iload_n hx hb dX0_lossOf_15 rfl (lv_at hl 2 rfl) ?_
  by_cases hs0 : x0 = (nI 0)
  · have hf := if_t hf hs0
    refine lv_tableIn (tgt := 48) hx hb dX0_lossOf_16 (by rw [hs0]; decide) (by rw [hs0]; decide) (by rw [hs0]; rfl) (by decide) ?_
    refine lv_iload_n hx hb dX0_lossOf_48 rfl (lv_at hl 1 rfl) ?_
    have hK9 := K0_of hf hK
    exact hRet (x1 / (nI 8)) _ _ _ _ hK9 dX0_lossOf_49 hP hD hS
  have hf := if_f hf hs0
  by_cases hs1 : x0 = (nI 1)
  · have hf := if_t hf hs1
    refine lv_tableIn (tgt := 50) hx hb dX0_lossOf_16 (by rw [hs1]; decide) (by rw [hs1]; decide) (by rw [hs1]; rfl) (by decide) ?_
    refine lv_iload_n hx hb dX0_lossOf_50 rfl (lv_at hl 0 rfl) ?_
    have hK9 := K0_of hf hK
    exact hRet (if (((nI 2) * (x1 / (nI 8))) + (nI 1)) < x1 then (((nI 2) * (x1 / (nI 8))) + (nI 1)) else x1) _ _ _ _ hK9 dX0_lossOf_51 hP hD hS
  have hf := if_f hf hs1
  by_cases hs2 : x0 = (nI 2)
  · have hf := if_t hf hs2
    refine lv_tableIn (tgt := 52) hx hb dX0_lossOf_16 (by rw [hs2]; decide) (by rw [hs2]; decide) (by rw [hs2]; rfl) (by decide) ?_
    refine lv_iload_n hx hb dX0_lossOf_52 rfl (lv_at hl 0 rfl) ?_
    refine lv_iconst (v := (nI 2)) hx hb dX0_lossOf_53 (ic_2) ?_
    refine lv_idiv hx hb dX0_lossOf_54 (by decide) ?_
    have hK9 := K0_of hf hK
    exact hRet ((if (((nI 2) * (x1 / (nI 8))) + (nI 1)) < x1 then (((nI 2) * (x1 / (nI 8))) + (nI 1)) else x1) / (nI 2)) _ _ _ _ hK9 dX0_lossOf_55 hP hD hS
  have hf := if_f hf hs2
  by_cases hs3 : x0 = (nI 3)
  · have hf := if_t hf hs3
    refine lv_tableIn (tgt := 56) hx hb dX0_lossOf_16 (by rw [hs3]; decide) (by rw [hs3]; decide) (by rw [hs3]; rfl) (by decide) ?_
    refine lv_iconst (v := (nI 0)) hx hb dX0_lossOf_56 (ic_0) ?_
    refine lv_iload_n hx hb dX0_lossOf_57 rfl (lv_at hl 1 rfl) ?_
    refine lv_iconst (v := (nI 1)) hx hb dX0_lossOf_58 (ic_1) ?_
    refine lv_isub hx hb dX0_lossOf_59 ?_
    refine va_mmax hx hb (hml.trans hl.1.symm) hown (hts (.methodLink RX0 131 Lib.Math.max.name) (by decide +kernel)) (hts (.static Lib.Math.max.name) (by decide +kernel)) (hts (.initialized "java/lang/Math") (by decide +kernel)) (hts (.code Lib.Math.max.name Lib.Math.max.code 2 (some .int)) (by decide +kernel)) (Nat.le_of_ble_eq_true rfl) (Nat.le_of_ble_eq_true rfl) (Nat.zero_le _) (Nat.zero_le _) dX0_lossOf_60 ?_
    have hK9 := K0_of hf hK
    exact hRet (if (nI 0) < ((x1 / (nI 8)) - (nI 1)) then ((x1 / (nI 8)) - (nI 1)) else (nI 0)) _ _ _ _ hK9 dX0_lossOf_63 hP hD hS
  have hf := if_f hf hs3
  have hout : x0.toInt < 0 ∨ 3 < x0.toInt := by
    have t0 := ne_int hs0 (by decide)
    have t1 := ne_int hs1 (by decide)
    have t2 := ne_int hs2 (by decide)
    have t3 := ne_int hs3 (by decide)
    omega
  refine lv_tableOut (tgt := 64) hx hb dX0_lossOf_16 hout (by decide) ?_
  refine lv_iconst (v := (nI 0)) hx hb dX0_lossOf_64 (ic_0) ?_
  have hK9 := K0_of hf hK
  exact hRet (nI 0) _ _ _ _ hK9 dX0_lossOf_65 hP hD hS
noncomputable def p_X0_moult_L4 (x1 : Int32) (z : Int32 × Int32 × Mem) : Option ((Int32 × Int32 × Mem) ⊕ (Int32 × Mem)) :=
  match z with
  | (x2, x3, f_) =>
    if (nI 5) ≤ x3 then
      (some (Sum.inr (x2, f_)))
    else
      (gd (inb x1 3) <|
       Option.bind (p_X0_held f_ x1 x3) <| fun r18 =>
       Option.bind (p_X0_lossOf (f_ 1 x1.toNatClampNeg) r18) <| fun r21 =>
       gd (inb ((x1 * (nI 5)) + x3) 15) <|
       gd (inb ((x1 * (nI 5)) + x3) 15) <|
       bnd (upd (f_ 4) ((x1 * (nI 5)) + x3).toNatClampNeg ((f_ 4 ((x1 * (nI 5)) + x3).toNatClampNeg) - r21)) <| fun g40 =>
       some (Sum.inl ((x2 + r21), (x3 + nI 1), (mrow 4 (g40) f_))))
noncomputable def p_X0_moult (f : Mem) (x1 : Int32) : Option (Mem) :=
  Option.bind (lp (p_X0_moult_L4 x1) ((nI 0), (nI 0), f)) <| fun (y2_4, f_4) =>
  gd (inb x1 3) <|
  Option.bind (p_X0_held f_4 x1 (f_4 2 x1.toNatClampNeg)) <| fun r60 =>
  gd (inb x1 3) <|
  gd (inb ((x1 * (nI 5)) + (f_4 2 x1.toNatClampNeg)) 15) <|
  bnd (upd (f_4 4) ((x1 * (nI 5)) + (f_4 2 x1.toNatClampNeg)).toNatClampNeg (if (r60 + ((y2_4 + (nI 1)) / (nI 2))) < (nI 99) then (r60 + ((y2_4 + (nI 1)) / (nI 2))) else (nI 99))) <| fun g90 =>
  some (mrow 4 (g90) f_4)
set_option maxHeartbeats 4000000 in
set_option maxRecDepth 100000 in
theorem c_X0_moult (l : Launch) (G : Gt) (ad : Nat → Nat) (f : Mem) (x1 : Int32) (fz : Mem) (hf : p_X0_moult f x1 = some fz) (sz : Nat) : Met l yX0_moult wsX0_moult ({ frames := 2, cells := 0, slots := 0, locals := 63 }) (Pc0 G sz [.ref (ad 0), .int x1] (wX0 G ad f)) (Qv0 G (va_A (wX0 G ad f) sz) (wX0 G ad fz)) 0 0 (va_A (wX0 G ad f) sz) := by
  refine metP (Qf := fun A => Qv0 G A (wX0 G ad fz)) cX0_moult 5 (none) (by decide) rfl (Nat.le_of_ble_eq_true rfl) ?_
  intro p e s m below meth c A ls hC hr hlocks hin hE hA hsz hP hD hS hl
  generalize hargs : ([.ref (ad 0), .int x1] : List Value).toArray = args at hC ⊢
  obtain ⟨hx, hb, hml, hown, hts⟩ := id hC
  have hT : va_K G.1 vwCl (tyL G) s := hE.1
  have hRet : ∀ (f9 : Mem) (H : Heap) (locs : List Loc) (ls : Array Slot) (pc : Nat) (hK9 : f9 = fz) (hdg : decode cX0_moult pc = .ok (.return_, 1)), va_P G.1 vwCl (wX0 G ad f9) H → va_D A (wX0 G ad f9) → va_S A s.heap H locs → W p l e ({ frames := 2, cells := 0, slots := 0, locals := 63 }) s m args below meth c H locs 0 0 (MQ below (Qv0 G A (wX0 G ad fz)) args s 0 0 A) (F0 m pc ls []) := by
    intro f9 H locs ls pc hK9 hdg hP hD hS
    cases hK9
    exact W.vret hx hb hr (fun t ht hW => ⟨⟨(), rfl, trivial, by rw [ht]; exact hP, hD⟩, hS.F ht⟩) hS.2.2 hdg hlocks
  generalize MQ below (Qv0 G A (wX0 G ad fz)) args s 0 0 A = Q at hRet ⊢
  have lk21 := hts (.fieldLink RX0 21 "FeatherShares$Flock" "kind" "[I") (by decide +kernel)
  have inX0 : ∀ w ∈ u_ws RX0 TX0 13, w ∈ wsX0_moult := by decide +kernel
  have lk31 := hts (.fieldLink RX0 31 "FeatherShares$Flock" "feathers" "[I") (by decide +kernel)
  have lk25 := hts (.fieldLink RX0 25 "FeatherShares$Flock" "skin" "[I") (by decide +kernel)
  have hl : lv_has ls 5 [(0, .ref (ad 0)), (1, .int x1)] := hl
  have hK0 : fz = fz := rfl
  obtain ⟨res, hres, hK⟩ : ∃ res, p_X0_moult f x1 = some res ∧ res = fz := ⟨_, hf, rfl⟩
  clear hf
  have hf := hres
  clear hres
  unfold p_X0_moult at hf
  refine lv_iconst (v := (nI 0)) hx hb dX0_moult_0 (ic_0) ?_
  refine lv_istore_n (lv' := [(2, .int (nI 0)), (0, .ref (ad 0)), (1, .int x1)]) hx hb dX0_moult_1 rfl hl (by decide) rfl (fun ls hl => ?_)
  refine lv_iconst (v := (nI 0)) hx hb dX0_moult_2 (ic_0) ?_
  refine lv_istore_n (lv' := [(3, .int (nI 0)), (2, .int (nI 0)), (0, .ref (ad 0)), (1, .int x1)]) hx hb dX0_moult_3 rfl hl (by decide) rfl (fun ls hl => ?_)
  obtain ⟨⟨y2_4, f_4⟩, hlp, hf⟩ := bd_e hf
  refine lp_W1 (p_X0_moult_L4 x1) (fun z => match z with | (x2, x3, f_) => ∀ (H : Heap) (locs : List Loc) (ls : Array Slot), va_P G.1 vwCl (wX0 G ad f_) H → va_D A (wX0 G ad f_) → va_S A s.heap H locs → lv_has ls 5 [(0, .ref (ad 0)), (1, .int x1), (2, .int x2), (3, .int x3)] → W p l e ({ frames := 2, cells := 0, slots := 0, locals := 63 }) s m args below meth c H locs 0 0 Q (F0 m 4 ls [])) (fun z => match z with | (y2_4, f_4) => ∀ (H : Heap) (locs : List Loc) (ls : Array Slot), va_P G.1 vwCl (wX0 G ad f_4) H → va_D A (wX0 G ad f_4) → va_S A s.heap H locs → lv_has ls 5 [(0, .ref (ad 0)), (1, .int x1), (2, .int y2_4)] → W p l e ({ frames := 2, cells := 0, slots := 0, locals := 63 }) s m args below meth c H locs 0 0 Q (F0 m 52 ls [])) ?_ hlp ?_ _ _ _ hP hD hS (lv_sub hl [2, 3, 1, 0] rfl)
  · clear hlp hf hK hP hD hS hl
    intro K4 hW4 hX4 
    rintro ⟨x2, x3, f_⟩ res hf hK H locs ls hP hD hS hl
    unfold p_X0_moult_L4 at hf
    dsimp only at hf
    refine lv_iload_n hx hb dX0_moult_4 rfl (lv_at hl 3 rfl) ?_
    refine lv_iconst (v := (nI 5)) hx hb dX0_moult_5 (ic_5) ?_
    refine lv_icmp_ge (tgt := 52) hx hb dX0_moult_6 (by decide) (fun hc => ?_) (fun hc => ?_)
    · have hf := if_t hf hc
      have hK9 := K_of hf hK
      have hK9 := hX4 _ hK9
      exact hK9 _ _ _ hP hD hS (lv_sub hl [0, 1, 2] rfl)
    · have hf := if_f hf hc
      refine lv_aload_n hx hb dX0_moult_9 rfl (lv_at hl 0 rfl) ?_
      refine va_get (C := RX0) (T := TX0) (N := 13) (ci := 0) (v := .ref (ad 1)) hx hb hts inX0 hown hT hP 0 rfl rfl 3 (Nat.le_of_ble_eq_true rfl) lk21 (fun _ h => h) rfl dX0_moult_10 ?_
      refine lv_iload_n hx hb dX0_moult_13 rfl (lv_at hl 1 rfl) ?_
      obtain ⟨hg, hf⟩ := gd_e hf
      refine va_iald (f := f_ 1) hx hb hT hP 1 0 rfl rfl (inb_e hg) dX0_moult_14 ?_
      refine lv_aload_n hx hb dX0_moult_15 rfl (lv_at hl 0 rfl) ?_
      refine lv_iload_n hx hb dX0_moult_16 rfl (lv_at hl 1 rfl) ?_
      refine lv_iload_n hx hb dX0_moult_17 rfl (lv_at hl 3 rfl) ?_
      obtain ⟨r18, hc18, hf⟩ := bd_e hf
      refine cl_i_same (Wd := (wX0 G ad f_)) (W' := (wX0 G ad f_)) (va_runV (As := [.int x1, .int x3]) (rest := [.int (f_ 1 x1.toNatClampNeg)]) hC (c_X0_held l G ad f_ x1 x3 r18 hc18 _) (cwV 2 hts gX0_moult_X0_held rfl rfl rfl (by decide +kernel) ⟨Nat.le_of_ble_eq_true rfl, Nat.le_of_ble_eq_true rfl⟩) ⟨Pc0_blind, va_recv hT hP (q0 := 0) (ci := 0) rfl rfl, fun U hU hW => Pc0_at hE hP hD hU hW⟩ rfl rfl hl.1 rfl (lv_room (Nat.le_of_ble_eq_true rfl)) dX0_moult_18 ⟨Nat.zero_le _, Nat.zero_le _⟩) hS hA hD (fun H locs hP hD hS => ?_)
      obtain ⟨r21, hc21, hf⟩ := bd_e hf
      refine cl_i_ro (Wd := (wX0 G ad f_)) (Wc := ([] : va_W)) [] rfl (va_runS (As := [.int (f_ 1 x1.toNatClampNeg), .int r18]) (rest := []) hC (c_X0_lossOf l G (f_ 1 x1.toNatClampNeg) r18 r21 hc21 _) (va_cwS 2 hts gX0_moult_X0_lossOf rfl rfl rfl (by decide +kernel) ⟨Nat.le_of_ble_eq_true rfl, Nat.le_of_ble_eq_true rfl⟩) ⟨Pc0_blind, fun U hU hW => Pc0_at (Wd := ([] : va_W)) hE (hP.subm [] rfl) (hD.sub [] (by decide) rfl) hU hW⟩ rfl rfl hl.1 rfl (lv_room (Nat.le_of_ble_eq_true rfl)) dX0_moult_21 ⟨Nat.zero_le _, Nat.zero_le _⟩) hS hA hP hD (fun H locs hP hD hS => ?_)
      refine lv_istore (lv' := [(4, .int r21), (0, .ref (ad 0)), (1, .int x1), (2, .int x2), (3, .int x3)]) hx hb dX0_moult_24 hl (by decide) rfl (fun ls hl => ?_)
      refine lv_aload_n hx hb dX0_moult_26 rfl (lv_at hl 1 rfl) ?_
      refine va_get (C := RX0) (T := TX0) (N := 13) (ci := 0) (v := .ref (ad 4)) hx hb hts inX0 hown hT hP 0 rfl rfl 6 (Nat.le_of_ble_eq_true rfl) lk31 (fun _ h => h) rfl dX0_moult_27 ?_
      refine lv_iload_n hx hb dX0_moult_30 rfl (lv_at hl 2 rfl) ?_
      refine lv_iconst (v := (nI 5)) hx hb dX0_moult_31 (ic_5) ?_
      refine lv_imul hx hb dX0_moult_32 ?_
      refine lv_iload_n hx hb dX0_moult_33 rfl (lv_at hl 4 rfl) ?_
      refine lv_iadd hx hb dX0_moult_34 ?_
      refine lv_dup2_11 hx hb dX0_moult_35 rfl rfl ?_
      obtain ⟨hg, hf⟩ := gd_e hf
      refine va_iald (f := f_ 4) hx hb hT hP 4 0 rfl rfl (inb_e hg) dX0_moult_36 ?_
      refine lv_iload hx hb dX0_moult_37 (lv_at hl 0 rfl) ?_
      refine lv_isub hx hb dX0_moult_39 ?_
      obtain ⟨hg, hf⟩ := gd_e hf
      obtain ⟨g40, eg40, hf⟩ := bnd_e hf
      refine va_iast (f := f_ 4) hx hb hT hP hD hS 4 0 rfl rfl (inb_e hg) dX0_moult_40 (fun H locs hP hD hS => ?_)
      rw [← eg40] at hP hD
      have hP : va_P G.1 vwCl (wX0 G ad (mrow 4 (g40) f_)) H := hP
      have hD : va_D A (wX0 G ad (mrow 4 (g40) f_)) := hD
      refine lv_iload_n hx hb dX0_moult_41 rfl (lv_at hl 3 rfl) ?_
      refine lv_iload hx hb dX0_moult_42 (lv_at hl 0 rfl) ?_
      refine lv_iadd hx hb dX0_moult_44 ?_
      refine lv_istore_n (lv' := [(2, .int (x2 + r21)), (4, .int r21), (0, .ref (ad 0)), (1, .int x1), (3, .int x3)]) hx hb dX0_moult_45 rfl hl (by decide) rfl (fun ls hl => ?_)
      refine lv_iinc (v := (x3 + nI 1)) (lv' := [(3, .int (x3 + nI 1)), (2, .int (x2 + r21)), (4, .int r21), (0, .ref (ad 0)), (1, .int x1)]) hx hb dX0_moult_46 hl (k := 4) rfl (ii_x 1 _) (by decide) rfl (fun ls hl => ?_)
      refine lv_goto (tgt := 4) hx hb dX0_moult_49 (by decide) ?_
      have hK9 := K_of hf hK
      have hK9 := hW4 _ hK9
      exact hK9 _ _ _ hP hD hS (lv_sub hl [3, 4, 1, 0] rfl)
  · try dsimp only at hf
    show ∀ (H : Heap) (locs : List Loc) (ls : Array Slot), va_P G.1 vwCl (wX0 G ad f_4) H → va_D A (wX0 G ad f_4) → va_S A s.heap H locs → lv_has ls 5 [(0, .ref (ad 0)), (1, .int x1), (2, .int y2_4)] → W p l e ({ frames := 2, cells := 0, slots := 0, locals := 63 }) s m args below meth c H locs 0 0 Q (F0 m 52 ls [])
    intro H locs ls hP hD hS hl
    refine lv_aload_n hx hb dX0_moult_52 rfl (lv_at hl 0 rfl) ?_
    refine lv_iload_n hx hb dX0_moult_53 rfl (lv_at hl 1 rfl) ?_
    refine lv_aload_n hx hb dX0_moult_54 rfl (lv_at hl 0 rfl) ?_
    refine va_get (C := RX0) (T := TX0) (N := 13) (ci := 0) (v := .ref (ad 2)) hx hb hts inX0 hown hT hP 0 rfl rfl 4 (Nat.le_of_ble_eq_true rfl) lk25 (fun _ h => h) rfl dX0_moult_55 ?_
    refine lv_iload_n hx hb dX0_moult_58 rfl (lv_at hl 1 rfl) ?_
    obtain ⟨hg, hf⟩ := gd_e hf
    refine va_iald (f := f_4 2) hx hb hT hP 2 0 rfl rfl (inb_e hg) dX0_moult_59 ?_
    obtain ⟨r60, hc60, hf⟩ := bd_e hf
    refine cl_i_same (Wd := (wX0 G ad f_4)) (W' := (wX0 G ad f_4)) (va_runV (As := [.int x1, .int (f_4 2 x1.toNatClampNeg)]) (rest := []) hC (c_X0_held l G ad f_4 x1 (f_4 2 x1.toNatClampNeg) r60 hc60 _) (cwV 2 hts gX0_moult_X0_held rfl rfl rfl (by decide +kernel) ⟨Nat.le_of_ble_eq_true rfl, Nat.le_of_ble_eq_true rfl⟩) ⟨Pc0_blind, va_recv hT hP (q0 := 0) (ci := 0) rfl rfl, fun U hU hW => Pc0_at hE hP hD hU hW⟩ rfl rfl hl.1 rfl (lv_room (Nat.le_of_ble_eq_true rfl)) dX0_moult_60 ⟨Nat.zero_le _, Nat.zero_le _⟩) hS hA hD (fun H locs hP hD hS => ?_)
    refine lv_iload_n hx hb dX0_moult_63 rfl (lv_at hl 2 rfl) ?_
    refine lv_iconst (v := (nI 1)) hx hb dX0_moult_64 (ic_1) ?_
    refine lv_iadd hx hb dX0_moult_65 ?_
    refine lv_iconst (v := (nI 2)) hx hb dX0_moult_66 (ic_2) ?_
    refine lv_idiv hx hb dX0_moult_67 (by decide) ?_
    refine lv_iadd hx hb dX0_moult_68 ?_
    refine lv_istore_n (lv' := [(3, .int (r60 + ((y2_4 + (nI 1)) / (nI 2)))), (0, .ref (ad 0)), (1, .int x1), (2, .int y2_4)]) hx hb dX0_moult_69 rfl hl (by decide) rfl (fun ls hl => ?_)
    refine lv_aload_n hx hb dX0_moult_70 rfl (lv_at hl 1 rfl) ?_
    refine va_get (C := RX0) (T := TX0) (N := 13) (ci := 0) (v := .ref (ad 4)) hx hb hts inX0 hown hT hP 0 rfl rfl 6 (Nat.le_of_ble_eq_true rfl) lk31 (fun _ h => h) rfl dX0_moult_71 ?_
    refine lv_iload_n hx hb dX0_moult_74 rfl (lv_at hl 2 rfl) ?_
    refine lv_iconst (v := (nI 5)) hx hb dX0_moult_75 (ic_5) ?_
    refine lv_imul hx hb dX0_moult_76 ?_
    refine lv_aload_n hx hb dX0_moult_77 rfl (lv_at hl 1 rfl) ?_
    refine va_get (C := RX0) (T := TX0) (N := 13) (ci := 0) (v := .ref (ad 2)) hx hb hts inX0 hown hT hP 0 rfl rfl 4 (Nat.le_of_ble_eq_true rfl) lk25 (fun _ h => h) rfl dX0_moult_78 ?_
    refine lv_iload_n hx hb dX0_moult_81 rfl (lv_at hl 2 rfl) ?_
    obtain ⟨hg, hf⟩ := gd_e hf
    refine va_iald (f := f_4 2) hx hb hT hP 2 0 rfl rfl (inb_e hg) dX0_moult_82 ?_
    refine lv_iadd hx hb dX0_moult_83 ?_
    refine lv_bipush (v := (nI 99)) hx hb dX0_moult_84 (bi_99) ?_
    refine lv_iload_n hx hb dX0_moult_86 rfl (lv_at hl 0 rfl) ?_
    refine va_mmin hx hb (hml.trans hl.1.symm) hown (hts (.methodLink RX0 126 Lib.Math.min.name) (by decide +kernel)) (hts (.static Lib.Math.min.name) (by decide +kernel)) (hts (.initialized "java/lang/Math") (by decide +kernel)) (hts (.code Lib.Math.min.name Lib.Math.min.code 2 (some .int)) (by decide +kernel)) (Nat.le_of_ble_eq_true rfl) (Nat.le_of_ble_eq_true rfl) (Nat.zero_le _) (Nat.zero_le _) dX0_moult_87 ?_
    obtain ⟨hg, hf⟩ := gd_e hf
    obtain ⟨g90, eg90, hf⟩ := bnd_e hf
    refine va_iast (f := f_4 4) hx hb hT hP hD hS 4 0 rfl rfl (inb_e hg) dX0_moult_90 (fun H locs hP hD hS => ?_)
    rw [← eg90] at hP hD
    have hP : va_P G.1 vwCl (wX0 G ad (mrow 4 (g90) f_4)) H := hP
    have hD : va_D A (wX0 G ad (mrow 4 (g90) f_4)) := hD
    have hK9 := K0_of hf hK
    exact hRet (mrow 4 (g90) f_4) _ _ _ _ hK9 dX0_moult_91 hP hD hS
noncomputable def p_X0_passWeek_B37 (f_ : Mem) (x1 : Int32) (x2 : Int32) : Option ((Int32 × Int32 × Mem) ⊕ (Int32 × Mem)) :=
  Option.bind (p_X0_moult f_ x2) <| fun f_39 =>
  some (Sum.inl (x1, (x2 + nI 1), f_39))
noncomputable def p_X0_passWeek_L4  (z : Int32 × Int32 × Mem) : Option ((Int32 × Int32 × Mem) ⊕ (Int32 × Mem)) :=
  match z with
  | (x1, x2, f_) =>
    if (f_ 0 0) ≤ x2 then
      (some (Sum.inr (x1, f_)))
    else
      (Option.bind (p_X0_eggOwner f_ x2) <| fun r14 =>
       if r14 = (-4 : Int32) then
         (p_X0_passWeek_B37 f_ x1 x2)
       else
         (gd (inb r14 5) <|
          gd (inb r14 5) <|
          bnd (upd (f_ 6) r14.toNatClampNeg ((f_ 6 r14.toNatClampNeg) + (nI 1))) <| fun g33 =>
          p_X0_passWeek_B37 (mrow 6 (g33) f_) (x1 + nI 1) x2))
noncomputable def p_X0_passWeek (f : Mem) : Option (Int32 × Mem) :=
  Option.bind (lp (p_X0_passWeek_L4) ((nI 0), (nI 0), f)) <| fun (y1_4, f_4) =>
  some (y1_4, (mset 0 1 ((f_4 0 1) + (nI 1)) f_4))
set_option maxHeartbeats 4000000 in
set_option maxRecDepth 100000 in
theorem c_X0_passWeek (l : Launch) (G : Gt) (ad : Nat → Nat) (f : Mem) (r : Int32) (fz : Mem) (hf : p_X0_passWeek f = some (r, fz)) (sz : Nat) : Met l yX0_passWeek wsX0_passWeek ({ frames := 3, cells := 0, slots := 0, locals := 87 }) (Pc0 G sz [.ref (ad 0)] (wX0 G ad f)) (Qi0 G (va_A (wX0 G ad f) sz) r (wX0 G ad fz)) 0 0 (va_A (wX0 G ad f) sz) := by
  refine metP (Qf := fun A => Qi0 G A r (wX0 G ad fz)) cX0_passWeek 4 (some .int) (by decide) rfl (Nat.le_of_ble_eq_true rfl) ?_
  intro p e s m below meth c A ls hC hr hlocks hin hE hA hsz hP hD hS hl
  generalize hargs : ([.ref (ad 0)] : List Value).toArray = args at hC ⊢
  obtain ⟨hx, hb, hml, hown, hts⟩ := id hC
  have hT : va_K G.1 vwCl (tyL G) s := hE.1
  have hRet : ∀ (r9 : Int32) (f9 : Mem) (H : Heap) (locs : List Loc) (ls : Array Slot) (pc : Nat) (hK9 : (r9, f9) = (r, fz)) (hdg : decode cX0_passWeek pc = .ok (.ireturn, 1)), va_P G.1 vwCl (wX0 G ad f9) H → va_D A (wX0 G ad f9) → va_S A s.heap H locs → W p l e ({ frames := 3, cells := 0, slots := 0, locals := 87 }) s m args below meth c H locs 0 0 (MQ below (Qi0 G A r (wX0 G ad fz)) args s 0 0 A) (F0 m pc ls [.int r9]) := by
    intro r9 f9 H locs ls pc hK9 hdg hP hD hS
    cases hK9
    exact W.iret hx hb hr (fun t ht hW => ⟨⟨r, (), rfl, rfl, by rw [ht]; exact hP, hD⟩, hS.F ht⟩) hS.2.2 hdg hlocks
  generalize MQ below (Qi0 G A r (wX0 G ad fz)) args s 0 0 A = Q at hRet ⊢
  have lk9 := hts (.fieldLink RX0 9 "FeatherShares$Flock" "geese" "I") (by decide +kernel)
  have inX0 : ∀ w ∈ u_ws RX0 TX0 13, w ∈ wsX0_passWeek := by decide +kernel
  have lk37 := hts (.fieldLink RX0 37 "FeatherShares$Flock" "eggsHad" "[I") (by decide +kernel)
  have lk15 := hts (.fieldLink RX0 15 "FeatherShares$Flock" "week" "I") (by decide +kernel)
  have hl : lv_has ls 4 [(0, .ref (ad 0))] := hl
  have hK0 : (r, fz) = (r, fz) := rfl
  obtain ⟨res, hres, hK⟩ : ∃ res, p_X0_passWeek f = some res ∧ res = (r, fz) := ⟨_, hf, rfl⟩
  clear hf
  have hf := hres
  clear hres
  unfold p_X0_passWeek at hf
  refine lv_iconst (v := (nI 0)) hx hb dX0_passWeek_0 (ic_0) ?_
  refine lv_istore_n (lv' := [(1, .int (nI 0)), (0, .ref (ad 0))]) hx hb dX0_passWeek_1 rfl hl (by decide) rfl (fun ls hl => ?_)
  refine lv_iconst (v := (nI 0)) hx hb dX0_passWeek_2 (ic_0) ?_
  refine lv_istore_n (lv' := [(2, .int (nI 0)), (1, .int (nI 0)), (0, .ref (ad 0))]) hx hb dX0_passWeek_3 rfl hl (by decide) rfl (fun ls hl => ?_)
  obtain ⟨⟨y1_4, f_4⟩, hlp, hf⟩ := bd_e hf
  refine lp_W1 (p_X0_passWeek_L4) (fun z => match z with | (x1, x2, f_) => ∀ (H : Heap) (locs : List Loc) (ls : Array Slot), va_P G.1 vwCl (wX0 G ad f_) H → va_D A (wX0 G ad f_) → va_S A s.heap H locs → lv_has ls 4 [(0, .ref (ad 0)), (1, .int x1), (2, .int x2)] → W p l e ({ frames := 3, cells := 0, slots := 0, locals := 87 }) s m args below meth c H locs 0 0 Q (F0 m 4 ls [])) (fun z => match z with | (y1_4, f_4) => ∀ (H : Heap) (locs : List Loc) (ls : Array Slot), va_P G.1 vwCl (wX0 G ad f_4) H → va_D A (wX0 G ad f_4) → va_S A s.heap H locs → lv_has ls 4 [(0, .ref (ad 0)), (1, .int y1_4)] → W p l e ({ frames := 3, cells := 0, slots := 0, locals := 87 }) s m args below meth c H locs 0 0 Q (F0 m 48 ls [])) ?_ hlp ?_ _ _ _ hP hD hS (lv_sub hl [2, 1, 0] rfl)
  · clear hlp hf hK hP hD hS hl
    intro K4 hW4 hX4 
    have hB37 : ∀ (f_ : Mem) (x1 : Int32) (x2 : Int32) (res : (Int32 × Int32 × Mem) ⊕ (Int32 × Mem)) (hf : p_X0_passWeek_B37 f_ x1 x2 = some res) (hK : K4 res), ∀ (H : Heap) (locs : List Loc) (ls : Array Slot), va_P G.1 vwCl (wX0 G ad f_) H → va_D A (wX0 G ad f_) → va_S A s.heap H locs → lv_has ls 4 [(0, .ref (ad 0)), (1, .int x1), (2, .int x2)] → W p l e ({ frames := 3, cells := 0, slots := 0, locals := 87 }) s m args below meth c H locs 0 0 Q (F0 m 37 ls []) := by
      intro f_ x1 x2 res hf hK H locs ls hP hD hS hl
      unfold p_X0_passWeek_B37 at hf
      refine lv_aload_n hx hb dX0_passWeek_37 rfl (lv_at hl 0 rfl) ?_
      refine lv_iload_n hx hb dX0_passWeek_38 rfl (lv_at hl 2 rfl) ?_
      obtain ⟨f_39, hc39, hf⟩ := bd_e hf
      refine cl_v_same (Wd := (wX0 G ad f_)) (W' := (wX0 G ad f_39)) (va_runV (As := [.int x2]) (rest := []) hC (c_X0_moult l G ad f_ x2 f_39 hc39 _) (cwV 1 hts gX0_passWeek_X0_moult rfl rfl rfl (by decide +kernel) ⟨Nat.le_of_ble_eq_true rfl, Nat.le_of_ble_eq_true rfl⟩) ⟨Pc0_blind, va_recv hT hP (q0 := 0) (ci := 0) rfl rfl, fun U hU hW => Pc0_at hE hP hD hU hW⟩ rfl rfl hl.1 rfl (lv_room (Nat.le_of_ble_eq_true rfl)) dX0_passWeek_39 ⟨Nat.zero_le _, Nat.zero_le _⟩) hS hA hD (fun H locs hP hD hS => ?_)
      refine lv_iinc (v := (x2 + nI 1)) (lv' := [(2, .int (x2 + nI 1)), (0, .ref (ad 0)), (1, .int x1)]) hx hb dX0_passWeek_42 hl (k := 2) rfl (ii_x 1 _) (by decide) rfl (fun ls hl => ?_)
      refine lv_goto (tgt := 4) hx hb dX0_passWeek_45 (by decide) ?_
      have hK9 := K_of hf hK
      have hK9 := hW4 _ hK9
      exact hK9 _ _ _ hP hD hS (lv_sub hl [1, 2, 0] rfl)
    rintro ⟨x1, x2, f_⟩ res hf hK H locs ls hP hD hS hl
    unfold p_X0_passWeek_L4 at hf
    dsimp only at hf
    refine lv_iload_n hx hb dX0_passWeek_4 rfl (lv_at hl 2 rfl) ?_
    refine lv_aload_n hx hb dX0_passWeek_5 rfl (lv_at hl 0 rfl) ?_
    refine va_get (C := RX0) (T := TX0) (N := 13) (ci := 0) (v := .int (f_ 0 0)) hx hb hts inX0 hown hT hP 0 rfl rfl 0 (Nat.le_of_ble_eq_true rfl) lk9 (fun _ h => h) rfl dX0_passWeek_6 ?_
    refine lv_icmp_ge (tgt := 48) hx hb dX0_passWeek_9 (by decide) (fun hc => ?_) (fun hc => ?_)
    · have hf := if_t hf hc
      have hK9 := K_of hf hK
      have hK9 := hX4 _ hK9
      exact hK9 _ _ _ hP hD hS (lv_sub hl [0, 1] rfl)
    · have hf := if_f hf hc
      refine lv_aload_n hx hb dX0_passWeek_12 rfl (lv_at hl 0 rfl) ?_
      refine lv_iload_n hx hb dX0_passWeek_13 rfl (lv_at hl 2 rfl) ?_
      obtain ⟨r14, hc14, hf⟩ := bd_e hf
      refine cl_i_same (Wd := (wX0 G ad f_)) (W' := (wX0 G ad f_)) (va_runV (As := [.int x2]) (rest := []) hC (c_X0_eggOwner l G ad f_ x2 r14 hc14 _) (cwV 1 hts gX0_passWeek_X0_eggOwner rfl rfl rfl (by decide +kernel) ⟨Nat.le_of_ble_eq_true rfl, Nat.le_of_ble_eq_true rfl⟩) ⟨Pc0_blind, va_recv hT hP (q0 := 0) (ci := 0) rfl rfl, fun U hU hW => Pc0_at hE hP hD hU hW⟩ rfl rfl hl.1 rfl (lv_room (Nat.le_of_ble_eq_true rfl)) dX0_passWeek_14 ⟨Nat.zero_le _, Nat.zero_le _⟩) hS hA hD (fun H locs hP hD hS => ?_)
      refine lv_istore_n (lv' := [(3, .int r14), (0, .ref (ad 0)), (1, .int x1), (2, .int x2)]) hx hb dX0_passWeek_17 rfl hl (by decide) rfl (fun ls hl => ?_)
      refine lv_iload_n hx hb dX0_passWeek_18 rfl (lv_at hl 0 rfl) ?_
      refine lv_bipush (v := (-4 : Int32)) hx hb dX0_passWeek_19 (bi_m4) ?_
      refine lv_icmp_eq (tgt := 37) hx hb dX0_passWeek_21 (by decide) (fun hc => ?_) (fun hc => ?_)
      · have hf := if_t hf hc
        exact hB37 f_ x1 x2 _ hf hK _ _ _ hP hD hS (lv_sub hl [1, 2, 3] rfl)
      · have hf := if_f hf hc
        refine lv_aload_n hx hb dX0_passWeek_24 rfl (lv_at hl 1 rfl) ?_
        refine va_get (C := RX0) (T := TX0) (N := 13) (ci := 0) (v := .ref (ad 6)) hx hb hts inX0 hown hT hP 0 rfl rfl 8 (Nat.le_of_ble_eq_true rfl) lk37 (fun _ h => h) rfl dX0_passWeek_25 ?_
        refine lv_iload_n hx hb dX0_passWeek_28 rfl (lv_at hl 0 rfl) ?_
        refine lv_dup2_11 hx hb dX0_passWeek_29 rfl rfl ?_
        obtain ⟨hg, hf⟩ := gd_e hf
        refine va_iald (f := f_ 6) hx hb hT hP 6 0 rfl rfl (inb_e hg) dX0_passWeek_30 ?_
        refine lv_iconst (v := (nI 1)) hx hb dX0_passWeek_31 (ic_1) ?_
        refine lv_iadd hx hb dX0_passWeek_32 ?_
        obtain ⟨hg, hf⟩ := gd_e hf
        obtain ⟨g33, eg33, hf⟩ := bnd_e hf
        refine va_iast (f := f_ 6) hx hb hT hP hD hS 6 0 rfl rfl (inb_e hg) dX0_passWeek_33 (fun H locs hP hD hS => ?_)
        rw [← eg33] at hP hD
        have hP : va_P G.1 vwCl (wX0 G ad (mrow 6 (g33) f_)) H := hP
        have hD : va_D A (wX0 G ad (mrow 6 (g33) f_)) := hD
        refine lv_iinc (v := (x1 + nI 1)) (lv' := [(1, .int (x1 + nI 1)), (3, .int r14), (0, .ref (ad 0)), (2, .int x2)]) hx hb dX0_passWeek_34 hl (k := 2) rfl (ii_x 1 _) (by decide) rfl (fun ls hl => ?_)
        exact hB37 (mrow 6 (g33) f_) (x1 + nI 1) x2 _ hf hK _ _ _ hP hD hS (lv_sub hl [2, 0, 3] rfl)
  · try dsimp only at hf
    show ∀ (H : Heap) (locs : List Loc) (ls : Array Slot), va_P G.1 vwCl (wX0 G ad f_4) H → va_D A (wX0 G ad f_4) → va_S A s.heap H locs → lv_has ls 4 [(0, .ref (ad 0)), (1, .int y1_4)] → W p l e ({ frames := 3, cells := 0, slots := 0, locals := 87 }) s m args below meth c H locs 0 0 Q (F0 m 48 ls [])
    intro H locs ls hP hD hS hl
    refine lv_aload_n hx hb dX0_passWeek_48 rfl (lv_at hl 0 rfl) ?_
    refine lv_dup hx hb dX0_passWeek_49 rfl ?_
    refine va_get (C := RX0) (T := TX0) (N := 13) (ci := 0) (v := .int (f_4 0 1)) hx hb hts inX0 hown hT hP 0 rfl rfl 1 (Nat.le_of_ble_eq_true rfl) lk15 (fun _ h => h) rfl dX0_passWeek_50 ?_
    refine lv_iconst (v := (nI 1)) hx hb dX0_passWeek_53 (ic_1) ?_
    refine lv_iadd hx hb dX0_passWeek_54 ?_
    refine va_put (C := RX0) (T := TX0) (N := 13) (ci := 0) (ty := .int) (v := .int ((f_4 0 1) + (nI 1))) hx hb hts inX0 tyX0 tyX0_ok nmX0 hown hT hP hD hS 0 rfl rfl 1 (Nat.le_of_ble_eq_true rfl) lk15 (fun _ h => h) rfl (by decide +kernel) rfl rfl (Nat.le_of_ble_eq_true rfl) dX0_passWeek_55 (fun H locs hP hD hS => ?_)
    have hP : va_P G.1 vwCl (wX0 G ad (mset 0 1 ((f_4 0 1) + (nI 1)) f_4)) H := hP
    have hD : va_D A (wX0 G ad (mset 0 1 ((f_4 0 1) + (nI 1)) f_4)) := hD
    refine lv_iload_n hx hb dX0_passWeek_58 rfl (lv_at hl 1 rfl) ?_
    have hK9 := K0_of hf hK
    exact hRet y1_4 (mset 0 1 ((f_4 0 1) + (nI 1)) f_4) _ _ _ _ hK9 dX0_passWeek_59 hP hD hS
noncomputable def p_X0_passWeeks_L4 (x1 : Int32) (z : Int32 × Int32 × Mem) : Option ((Int32 × Int32 × Mem) ⊕ (Int32 × Mem)) :=
  match z with
  | (x2, x3, f_) =>
    if x1 ≤ x3 then
      (some (Sum.inr (x2, f_)))
    else
      (Option.bind (p_X0_passWeek f_) <| fun (r11, f_11) =>
       some (Sum.inl ((x2 + r11), (x3 + nI 1), f_11)))
noncomputable def p_X0_passWeeks (f : Mem) (x1 : Int32) : Option (Int32 × Mem) :=
  Option.bind (lp (p_X0_passWeeks_L4 x1) ((nI 0), (nI 0), f)) <| fun (y2_4, f_4) =>
  some (y2_4, f_4)
set_option maxHeartbeats 4000000 in
set_option maxRecDepth 100000 in
theorem c_X0_passWeeks (l : Launch) (G : Gt) (ad : Nat → Nat) (f : Mem) (x1 : Int32) (r : Int32) (fz : Mem) (hf : p_X0_passWeeks f x1 = some (r, fz)) (sz : Nat) : Met l yX0_passWeeks wsX0_passWeeks ({ frames := 4, cells := 0, slots := 0, locals := 110 }) (Pc0 G sz [.ref (ad 0), .int x1] (wX0 G ad f)) (Qi0 G (va_A (wX0 G ad f) sz) r (wX0 G ad fz)) 0 0 (va_A (wX0 G ad f) sz) := by
  refine metP (Qf := fun A => Qi0 G A r (wX0 G ad fz)) cX0_passWeeks 4 (some .int) (by decide) rfl (Nat.le_of_ble_eq_true rfl) ?_
  intro p e s m below meth c A ls hC hr hlocks hin hE hA hsz hP hD hS hl
  generalize hargs : ([.ref (ad 0), .int x1] : List Value).toArray = args at hC ⊢
  obtain ⟨hx, hb, hml, hown, hts⟩ := id hC
  have hT : va_K G.1 vwCl (tyL G) s := hE.1
  have hRet : ∀ (r9 : Int32) (f9 : Mem) (H : Heap) (locs : List Loc) (ls : Array Slot) (pc : Nat) (hK9 : (r9, f9) = (r, fz)) (hdg : decode cX0_passWeeks pc = .ok (.ireturn, 1)), va_P G.1 vwCl (wX0 G ad f9) H → va_D A (wX0 G ad f9) → va_S A s.heap H locs → W p l e ({ frames := 4, cells := 0, slots := 0, locals := 110 }) s m args below meth c H locs 0 0 (MQ below (Qi0 G A r (wX0 G ad fz)) args s 0 0 A) (F0 m pc ls [.int r9]) := by
    intro r9 f9 H locs ls pc hK9 hdg hP hD hS
    cases hK9
    exact W.iret hx hb hr (fun t ht hW => ⟨⟨r, (), rfl, rfl, by rw [ht]; exact hP, hD⟩, hS.F ht⟩) hS.2.2 hdg hlocks
  generalize MQ below (Qi0 G A r (wX0 G ad fz)) args s 0 0 A = Q at hRet ⊢
  have hl : lv_has ls 4 [(0, .ref (ad 0)), (1, .int x1)] := hl
  have hK0 : (r, fz) = (r, fz) := rfl
  obtain ⟨res, hres, hK⟩ : ∃ res, p_X0_passWeeks f x1 = some res ∧ res = (r, fz) := ⟨_, hf, rfl⟩
  clear hf
  have hf := hres
  clear hres
  unfold p_X0_passWeeks at hf
  refine lv_iconst (v := (nI 0)) hx hb dX0_passWeeks_0 (ic_0) ?_
  refine lv_istore_n (lv' := [(2, .int (nI 0)), (0, .ref (ad 0)), (1, .int x1)]) hx hb dX0_passWeeks_1 rfl hl (by decide) rfl (fun ls hl => ?_)
  refine lv_iconst (v := (nI 0)) hx hb dX0_passWeeks_2 (ic_0) ?_
  refine lv_istore_n (lv' := [(3, .int (nI 0)), (2, .int (nI 0)), (0, .ref (ad 0)), (1, .int x1)]) hx hb dX0_passWeeks_3 rfl hl (by decide) rfl (fun ls hl => ?_)
  obtain ⟨⟨y2_4, f_4⟩, hlp, hf⟩ := bd_e hf
  refine lp_W1 (p_X0_passWeeks_L4 x1) (fun z => match z with | (x2, x3, f_) => ∀ (H : Heap) (locs : List Loc) (ls : Array Slot), va_P G.1 vwCl (wX0 G ad f_) H → va_D A (wX0 G ad f_) → va_S A s.heap H locs → lv_has ls 4 [(0, .ref (ad 0)), (1, .int x1), (2, .int x2), (3, .int x3)] → W p l e ({ frames := 4, cells := 0, slots := 0, locals := 110 }) s m args below meth c H locs 0 0 Q (F0 m 4 ls [])) (fun z => match z with | (y2_4, f_4) => ∀ (H : Heap) (locs : List Loc) (ls : Array Slot), va_P G.1 vwCl (wX0 G ad f_4) H → va_D A (wX0 G ad f_4) → va_S A s.heap H locs → lv_has ls 4 [(2, .int y2_4)] → W p l e ({ frames := 4, cells := 0, slots := 0, locals := 110 }) s m args below meth c H locs 0 0 Q (F0 m 22 ls [])) ?_ hlp ?_ _ _ _ hP hD hS (lv_sub hl [2, 3, 1, 0] rfl)
  · clear hlp hf hK hP hD hS hl
    intro K4 hW4 hX4 
    rintro ⟨x2, x3, f_⟩ res hf hK H locs ls hP hD hS hl
    unfold p_X0_passWeeks_L4 at hf
    dsimp only at hf
    refine lv_iload_n hx hb dX0_passWeeks_4 rfl (lv_at hl 3 rfl) ?_
    refine lv_iload_n hx hb dX0_passWeeks_5 rfl (lv_at hl 1 rfl) ?_
    refine lv_icmp_ge (tgt := 22) hx hb dX0_passWeeks_6 (by decide) (fun hc => ?_) (fun hc => ?_)
    · have hf := if_t hf hc
      have hK9 := K_of hf hK
      have hK9 := hX4 _ hK9
      exact hK9 _ _ _ hP hD hS (lv_sub hl [2] rfl)
    · have hf := if_f hf hc
      refine lv_iload_n hx hb dX0_passWeeks_9 rfl (lv_at hl 2 rfl) ?_
      refine lv_aload_n hx hb dX0_passWeeks_10 rfl (lv_at hl 0 rfl) ?_
      obtain ⟨⟨r11, f_11⟩, hc11, hf⟩ := bd_e hf
      try dsimp only at hf
      refine cl_i_same (Wd := (wX0 G ad f_)) (W' := (wX0 G ad f_11)) (va_runV (As := []) (rest := [.int x2]) hC (c_X0_passWeek l G ad f_ r11 f_11 hc11 _) (cwV 0 hts gX0_passWeeks_X0_passWeek rfl rfl rfl (by decide +kernel) ⟨Nat.le_of_ble_eq_true rfl, Nat.le_of_ble_eq_true rfl⟩) ⟨Pc0_blind, va_recv hT hP (q0 := 0) (ci := 0) rfl rfl, fun U hU hW => Pc0_at hE hP hD hU hW⟩ rfl rfl hl.1 rfl (lv_room (Nat.le_of_ble_eq_true rfl)) dX0_passWeeks_11 ⟨Nat.zero_le _, Nat.zero_le _⟩) hS hA hD (fun H locs hP hD hS => ?_)
      refine lv_iadd hx hb dX0_passWeeks_14 ?_
      refine lv_istore_n (lv' := [(2, .int (x2 + r11)), (0, .ref (ad 0)), (1, .int x1), (3, .int x3)]) hx hb dX0_passWeeks_15 rfl hl (by decide) rfl (fun ls hl => ?_)
      refine lv_iinc (v := (x3 + nI 1)) (lv' := [(3, .int (x3 + nI 1)), (2, .int (x2 + r11)), (0, .ref (ad 0)), (1, .int x1)]) hx hb dX0_passWeeks_16 hl (k := 3) rfl (ii_x 1 _) (by decide) rfl (fun ls hl => ?_)
      refine lv_goto (tgt := 4) hx hb dX0_passWeeks_19 (by decide) ?_
      have hK9 := K_of hf hK
      have hK9 := hW4 _ hK9
      exact hK9 _ _ _ hP hD hS (lv_sub hl [2, 3, 1, 0] rfl)
  · try dsimp only at hf
    show ∀ (H : Heap) (locs : List Loc) (ls : Array Slot), va_P G.1 vwCl (wX0 G ad f_4) H → va_D A (wX0 G ad f_4) → va_S A s.heap H locs → lv_has ls 4 [(2, .int y2_4)] → W p l e ({ frames := 4, cells := 0, slots := 0, locals := 110 }) s m args below meth c H locs 0 0 Q (F0 m 22 ls [])
    intro H locs ls hP hD hS hl
    refine lv_iload_n hx hb dX0_passWeeks_22 rfl (lv_at hl 0 rfl) ?_
    have hK9 := K0_of hf hK
    exact hRet y2_4 f_4 _ _ _ _ hK9 dX0_passWeeks_23 hP hD hS
noncomputable def p_X0_isInPower_L5 (f : Mem) (x1 : Int32) (x2 : Int32) (z : Int32 × Int32) : Option ((Int32 × Int32) ⊕ Int32) :=
  match z with
  | (x3, x4) =>
    if (nI 5) ≤ x4 then
      (some (Sum.inr x3))
    else
      (Option.bind (p_X0_held f x1 x4) <| fun r22 =>
       some (Sum.inl ((x3 + (((x2 >>> (x4 &&& 31)) &&& (nI 1)) * r22)), (x4 + nI 1))))
noncomputable def p_X0_isInPower (f : Mem) (x1 : Int32) (x2 : Int32) : Option (Int32) :=
  Option.bind (lp (p_X0_isInPower_L5 f x1 x2) ((nI 0), (nI 0))) <| fun y3_5 =>
  Option.bind (p_X0_feathersOf f x1) <| fun r39 =>
  if ((nI 2) * y3_5) ≤ r39 then
    (some (nI 0))
  else
    (some (nI 1))
set_option maxHeartbeats 4000000 in
set_option maxRecDepth 100000 in
theorem c_X0_isInPower (l : Launch) (G : Gt) (ad : Nat → Nat) (f : Mem) (x1 : Int32) (x2 : Int32) (r : Int32) (hf : p_X0_isInPower f x1 x2 = some r) (sz : Nat) : Met l yX0_isInPower wsX0_isInPower ({ frames := 3, cells := 0, slots := 0, locals := 57 }) (Pc0 G sz [.ref (ad 0), .int x1, .int x2] (wX0 G ad f)) (Qz0 G (va_A (wX0 G ad f) sz) r (wX0 G ad f)) 0 0 (va_A (wX0 G ad f) sz) := by
  refine metP (Qf := fun A => Qz0 G A r (wX0 G ad f)) cX0_isInPower 5 (some .boolean) (by decide) rfl (Nat.le_of_ble_eq_true rfl) ?_
  intro p e s m below meth c A ls hC hr hlocks hin hE hA hsz hP hD hS hl
  generalize hargs : ([.ref (ad 0), .int x1, .int x2] : List Value).toArray = args at hC ⊢
  obtain ⟨hx, hb, hml, hown, hts⟩ := id hC
  have hT : va_K G.1 vwCl (tyL G) s := hE.1
  have hRet : ∀ (r9 : Int32) (H : Heap) (locs : List Loc) (ls : Array Slot) (pc : Nat) (hK9 : r9 = r) (hn9 : narrow .boolean (.int r9) = .int r9) (hdg : decode cX0_isInPower pc = .ok (.ireturn, 1)), va_P G.1 vwCl (wX0 G ad f) H → va_D A (wX0 G ad f) → va_S A s.heap H locs → W p l e ({ frames := 3, cells := 0, slots := 0, locals := 57 }) s m args below meth c H locs 0 0 (MQ below (Qz0 G A r (wX0 G ad f)) args s 0 0 A) (F0 m pc ls [.int r9]) := by
    intro r9 H locs ls pc hK9 hn9 hdg hP hD hS
    cases hK9
    exact W.zret hx hb hr hn9 (fun t ht hW => ⟨⟨r, (), rfl, ⟨rfl, hn9⟩, by rw [ht]; exact hP, hD⟩, hS.F ht⟩) hS.2.2 hdg hlocks
  generalize MQ below (Qz0 G A r (wX0 G ad f)) args s 0 0 A = Q at hRet ⊢
  have hl : lv_has ls 5 [(0, .ref (ad 0)), (1, .int x1), (2, .int x2)] := hl
  have hK0 : r = r := rfl
  obtain ⟨res, hres, hK⟩ : ∃ res, p_X0_isInPower f x1 x2 = some res ∧ res = r := ⟨_, hf, rfl⟩
  clear hf
  have hf := hres
  clear hres
  unfold p_X0_isInPower at hf
  refine lv_iconst (v := (nI 0)) hx hb dX0_isInPower_0 (ic_0) ?_
  refine lv_istore_n (lv' := [(3, .int (nI 0)), (0, .ref (ad 0)), (1, .int x1), (2, .int x2)]) hx hb dX0_isInPower_1 rfl hl (by decide) rfl (fun ls hl => ?_)
  refine lv_iconst (v := (nI 0)) hx hb dX0_isInPower_2 (ic_0) ?_
  refine lv_istore (lv' := [(4, .int (nI 0)), (3, .int (nI 0)), (0, .ref (ad 0)), (1, .int x1), (2, .int x2)]) hx hb dX0_isInPower_3 hl (by decide) rfl (fun ls hl => ?_)
  obtain ⟨y3_5, hlp, hf⟩ := bd_e hf
  refine lp_W1 (p_X0_isInPower_L5 f x1 x2) (fun z => match z with | (x3, x4) => ∀ (H : Heap) (locs : List Loc) (ls : Array Slot), va_P G.1 vwCl (wX0 G ad f) H → va_D A (wX0 G ad f) → va_S A s.heap H locs → lv_has ls 5 [(0, .ref (ad 0)), (1, .int x1), (2, .int x2), (3, .int x3), (4, .int x4)] → W p l e ({ frames := 3, cells := 0, slots := 0, locals := 57 }) s m args below meth c H locs 0 0 Q (F0 m 5 ls [])) (fun (y3_5 : Int32) => ∀ (H : Heap) (locs : List Loc) (ls : Array Slot), va_P G.1 vwCl (wX0 G ad f) H → va_D A (wX0 G ad f) → va_S A s.heap H locs → lv_has ls 5 [(0, .ref (ad 0)), (1, .int x1), (3, .int y3_5)] → W p l e ({ frames := 3, cells := 0, slots := 0, locals := 57 }) s m args below meth c H locs 0 0 Q (F0 m 34 ls [])) ?_ hlp ?_ _ _ _ hP hD hS (lv_sub hl [2, 3, 4, 1, 0] rfl)
  · clear hlp hf hK hP hD hS hl
    intro K5 hW5 hX5 
    rintro ⟨x3, x4⟩ res hf hK H locs ls hP hD hS hl
    unfold p_X0_isInPower_L5 at hf
    dsimp only at hf
    refine lv_iload hx hb dX0_isInPower_5 (lv_at hl 4 rfl) ?_
    refine lv_iconst (v := (nI 5)) hx hb dX0_isInPower_7 (ic_5) ?_
    refine lv_icmp_ge (tgt := 34) hx hb dX0_isInPower_8 (by decide) (fun hc => ?_) (fun hc => ?_)
    · have hf := if_t hf hc
      have hK9 := K_of hf hK
      have hK9 := hX5 _ hK9
      exact hK9 _ _ _ hP hD hS (lv_sub hl [0, 1, 3] rfl)
    · have hf := if_f hf hc
      refine lv_iload_n hx hb dX0_isInPower_11 rfl (lv_at hl 3 rfl) ?_
      refine lv_iload_n hx hb dX0_isInPower_12 rfl (lv_at hl 2 rfl) ?_
      refine lv_iload hx hb dX0_isInPower_13 (lv_at hl 4 rfl) ?_
      refine lv_ishr hx hb dX0_isInPower_15 ?_
      refine lv_iconst (v := (nI 1)) hx hb dX0_isInPower_16 (ic_1) ?_
      refine lv_iand hx hb dX0_isInPower_17 ?_
      refine lv_aload_n hx hb dX0_isInPower_18 rfl (lv_at hl 0 rfl) ?_
      refine lv_iload_n hx hb dX0_isInPower_19 rfl (lv_at hl 1 rfl) ?_
      refine lv_iload hx hb dX0_isInPower_20 (lv_at hl 4 rfl) ?_
      obtain ⟨r22, hc22, hf⟩ := bd_e hf
      refine cl_i_same (Wd := (wX0 G ad f)) (W' := (wX0 G ad f)) (va_runV (As := [.int x1, .int x4]) (rest := [.int ((x2 >>> (x4 &&& 31)) &&& (nI 1)), .int x3]) hC (c_X0_held l G ad f x1 x4 r22 hc22 _) (cwV 2 hts gX0_isInPower_X0_held rfl rfl rfl (by decide +kernel) ⟨Nat.le_of_ble_eq_true rfl, Nat.le_of_ble_eq_true rfl⟩) ⟨Pc0_blind, va_recv hT hP (q0 := 0) (ci := 0) rfl rfl, fun U hU hW => Pc0_at hE hP hD hU hW⟩ rfl rfl hl.1 rfl (lv_room (Nat.le_of_ble_eq_true rfl)) dX0_isInPower_22 ⟨Nat.zero_le _, Nat.zero_le _⟩) hS hA hD (fun H locs hP hD hS => ?_)
      refine lv_imul hx hb dX0_isInPower_25 ?_
      refine lv_iadd hx hb dX0_isInPower_26 ?_
      refine lv_istore_n (lv' := [(3, .int (x3 + (((x2 >>> (x4 &&& 31)) &&& (nI 1)) * r22))), (0, .ref (ad 0)), (1, .int x1), (2, .int x2), (4, .int x4)]) hx hb dX0_isInPower_27 rfl hl (by decide) rfl (fun ls hl => ?_)
      refine lv_iinc (v := (x4 + nI 1)) (lv' := [(4, .int (x4 + nI 1)), (3, .int (x3 + (((x2 >>> (x4 &&& 31)) &&& (nI 1)) * r22))), (0, .ref (ad 0)), (1, .int x1), (2, .int x2)]) hx hb dX0_isInPower_28 hl (k := 4) rfl (ii_x 1 _) (by decide) rfl (fun ls hl => ?_)
      refine lv_goto (tgt := 5) hx hb dX0_isInPower_31 (by decide) ?_
      have hK9 := K_of hf hK
      have hK9 := hW5 _ hK9
      exact hK9 _ _ _ hP hD hS (lv_sub hl [2, 3, 4, 1, 0] rfl)
  · try dsimp only at hf
    show ∀ (H : Heap) (locs : List Loc) (ls : Array Slot), va_P G.1 vwCl (wX0 G ad f) H → va_D A (wX0 G ad f) → va_S A s.heap H locs → lv_has ls 5 [(0, .ref (ad 0)), (1, .int x1), (3, .int y3_5)] → W p l e ({ frames := 3, cells := 0, slots := 0, locals := 57 }) s m args below meth c H locs 0 0 Q (F0 m 34 ls [])
    intro H locs ls hP hD hS hl
    refine lv_iconst (v := (nI 2)) hx hb dX0_isInPower_34 (ic_2) ?_
    refine lv_iload_n hx hb dX0_isInPower_35 rfl (lv_at hl 2 rfl) ?_
    refine lv_imul hx hb dX0_isInPower_36 ?_
    refine lv_aload_n hx hb dX0_isInPower_37 rfl (lv_at hl 0 rfl) ?_
    refine lv_iload_n hx hb dX0_isInPower_38 rfl (lv_at hl 1 rfl) ?_
    obtain ⟨r39, hc39, hf⟩ := bd_e hf
    refine cl_i_same (Wd := (wX0 G ad f)) (W' := (wX0 G ad f)) (va_runV (As := [.int x1]) (rest := [.int ((nI 2) * y3_5)]) hC (c_X0_feathersOf l G ad f x1 r39 hc39 _) (cwV 1 hts gX0_isInPower_X0_feathersOf rfl rfl rfl (by decide +kernel) ⟨Nat.le_of_ble_eq_true rfl, Nat.le_of_ble_eq_true rfl⟩) ⟨Pc0_blind, va_recv hT hP (q0 := 0) (ci := 0) rfl rfl, fun U hU hW => Pc0_at hE hP hD hU hW⟩ rfl rfl hl.1 rfl (lv_room (Nat.le_of_ble_eq_true rfl)) dX0_isInPower_39 ⟨Nat.zero_le _, Nat.zero_le _⟩) hS hA hD (fun H locs hP hD hS => ?_)
    refine lv_icmp_le (tgt := 49) hx hb dX0_isInPower_42 (by decide) (fun hc => ?_) (fun hc => ?_)
    · have hf := if_t hf hc
      refine lv_iconst (v := (nI 0)) hx hb dX0_isInPower_49 (ic_0) ?_
      have hK9 := K0_of hf hK
      exact hRet (nI 0) _ _ _ _ hK9 rfl dX0_isInPower_50 hP hD hS
    · have hf := if_f hf hc
      refine lv_iconst (v := (nI 1)) hx hb dX0_isInPower_45 (ic_1) ?_
      refine lv_goto (tgt := 50) hx hb dX0_isInPower_46 (by decide) ?_
      have hK9 := K0_of hf hK
      exact hRet (nI 1) _ _ _ _ hK9 rfl dX0_isInPower_50 hP hD hS
noncomputable def p_X0_setsSwungBy_B26 (f : Mem) (x1 : Int32) (x2 : Int32) (x3 : Int32) (x4 : Int32) (s0 : Int32) : Option ((Int32 × Int32) ⊕ Int32) :=
  if s0 = 0 then
    (some (Sum.inl (x3, (x4 + nI 1))))
  else
    (Option.bind (p_X0_isInPower f x1 x4) <| fun r37 =>
     if r37 = 0 then
       (Option.bind (p_X0_isInPower f x1 (x4 ||| ((nI 1) <<< (x2 &&& 31)))) <| fun r51 =>
        if r51 = 0 then
          (some (Sum.inl (x3, (x4 + nI 1))))
        else
          (some (Sum.inl ((x3 + nI 1), (x4 + nI 1)))))
     else
       (some (Sum.inl (x3, (x4 + nI 1)))))
noncomputable def p_X0_setsSwungBy_L5 (f : Mem) (x1 : Int32) (x2 : Int32) (z : Int32 × Int32) : Option ((Int32 × Int32) ⊕ Int32) :=
  match z with
  | (x3, x4) =>
    if (nI 32) ≤ x4 then
      (some (Sum.inr x3))
    else
      (if ((x4 >>> (x2 &&& 31)) &&& (nI 1)) = 0 then
         (p_X0_setsSwungBy_B26 f x1 x2 x3 x4 (nI 1))
       else
         (p_X0_setsSwungBy_B26 f x1 x2 x3 x4 (nI 0)))
noncomputable def p_X0_setsSwungBy (f : Mem) (x1 : Int32) (x2 : Int32) : Option (Int32) :=
  Option.bind (lp (p_X0_setsSwungBy_L5 f x1 x2) ((nI 0), (nI 0))) <| fun y3_5 =>
  some y3_5
set_option maxHeartbeats 4000000 in
set_option maxRecDepth 100000 in
theorem c_X0_setsSwungBy (l : Launch) (G : Gt) (ad : Nat → Nat) (f : Mem) (x1 : Int32) (x2 : Int32) (r : Int32) (hf : p_X0_setsSwungBy f x1 x2 = some r) (sz : Nat) : Met l yX0_setsSwungBy wsX0_setsSwungBy ({ frames := 4, cells := 0, slots := 0, locals := 81 }) (Pc0 G sz [.ref (ad 0), .int x1, .int x2] (wX0 G ad f)) (Qi0 G (va_A (wX0 G ad f) sz) r (wX0 G ad f)) 0 0 (va_A (wX0 G ad f) sz) := by
  refine metP (Qf := fun A => Qi0 G A r (wX0 G ad f)) cX0_setsSwungBy 6 (some .int) (by decide) rfl (Nat.le_of_ble_eq_true rfl) ?_
  intro p e s m below meth c A ls hC hr hlocks hin hE hA hsz hP hD hS hl
  generalize hargs : ([.ref (ad 0), .int x1, .int x2] : List Value).toArray = args at hC ⊢
  obtain ⟨hx, hb, hml, hown, hts⟩ := id hC
  have hT : va_K G.1 vwCl (tyL G) s := hE.1
  have hRet : ∀ (r9 : Int32) (H : Heap) (locs : List Loc) (ls : Array Slot) (pc : Nat) (hK9 : r9 = r) (hdg : decode cX0_setsSwungBy pc = .ok (.ireturn, 1)), va_P G.1 vwCl (wX0 G ad f) H → va_D A (wX0 G ad f) → va_S A s.heap H locs → W p l e ({ frames := 4, cells := 0, slots := 0, locals := 81 }) s m args below meth c H locs 0 0 (MQ below (Qi0 G A r (wX0 G ad f)) args s 0 0 A) (F0 m pc ls [.int r9]) := by
    intro r9 H locs ls pc hK9 hdg hP hD hS
    cases hK9
    exact W.iret hx hb hr (fun t ht hW => ⟨⟨r, (), rfl, rfl, by rw [ht]; exact hP, hD⟩, hS.F ht⟩) hS.2.2 hdg hlocks
  generalize MQ below (Qi0 G A r (wX0 G ad f)) args s 0 0 A = Q at hRet ⊢
  have hl : lv_has ls 6 [(0, .ref (ad 0)), (1, .int x1), (2, .int x2)] := hl
  have hK0 : r = r := rfl
  obtain ⟨res, hres, hK⟩ : ∃ res, p_X0_setsSwungBy f x1 x2 = some res ∧ res = r := ⟨_, hf, rfl⟩
  clear hf
  have hf := hres
  clear hres
  unfold p_X0_setsSwungBy at hf
  refine lv_iconst (v := (nI 0)) hx hb dX0_setsSwungBy_0 (ic_0) ?_
  refine lv_istore_n (lv' := [(3, .int (nI 0)), (0, .ref (ad 0)), (1, .int x1), (2, .int x2)]) hx hb dX0_setsSwungBy_1 rfl hl (by decide) rfl (fun ls hl => ?_)
  refine lv_iconst (v := (nI 0)) hx hb dX0_setsSwungBy_2 (ic_0) ?_
  refine lv_istore (lv' := [(4, .int (nI 0)), (3, .int (nI 0)), (0, .ref (ad 0)), (1, .int x1), (2, .int x2)]) hx hb dX0_setsSwungBy_3 hl (by decide) rfl (fun ls hl => ?_)
  obtain ⟨y3_5, hlp, hf⟩ := bd_e hf
  refine lp_W1 (p_X0_setsSwungBy_L5 f x1 x2) (fun z => match z with | (x3, x4) => ∀ (H : Heap) (locs : List Loc) (ls : Array Slot), va_P G.1 vwCl (wX0 G ad f) H → va_D A (wX0 G ad f) → va_S A s.heap H locs → lv_has ls 6 [(0, .ref (ad 0)), (1, .int x1), (2, .int x2), (3, .int x3), (4, .int x4)] → W p l e ({ frames := 4, cells := 0, slots := 0, locals := 81 }) s m args below meth c H locs 0 0 Q (F0 m 5 ls [])) (fun (y3_5 : Int32) => ∀ (H : Heap) (locs : List Loc) (ls : Array Slot), va_P G.1 vwCl (wX0 G ad f) H → va_D A (wX0 G ad f) → va_S A s.heap H locs → lv_has ls 6 [(3, .int y3_5)] → W p l e ({ frames := 4, cells := 0, slots := 0, locals := 81 }) s m args below meth c H locs 0 0 Q (F0 m 66 ls [])) ?_ hlp ?_ _ _ _ hP hD hS (lv_sub hl [2, 3, 4, 1, 0] rfl)
  · clear hlp hf hK hP hD hS hl
    intro K5 hW5 hX5 
    have hB26 : ∀ (x3 : Int32) (x4 : Int32) (s0 : Int32) (res : (Int32 × Int32) ⊕ Int32) (hf : p_X0_setsSwungBy_B26 f x1 x2 x3 x4 s0 = some res) (hK : K5 res), ∀ (H : Heap) (locs : List Loc) (ls : Array Slot), va_P G.1 vwCl (wX0 G ad f) H → va_D A (wX0 G ad f) → va_S A s.heap H locs → lv_has ls 6 [(0, .ref (ad 0)), (1, .int x1), (2, .int x2), (3, .int x3), (4, .int x4)] → W p l e ({ frames := 4, cells := 0, slots := 0, locals := 81 }) s m args below meth c H locs 0 0 Q (F0 m 26 ls [.int s0]) := by
      intro x3 x4 s0 res hf hK H locs ls hP hD hS hl
      unfold p_X0_setsSwungBy_B26 at hf
      refine lv_istore (lv' := [(5, .int s0), (0, .ref (ad 0)), (1, .int x1), (2, .int x2), (3, .int x3), (4, .int x4)]) hx hb dX0_setsSwungBy_26 hl (by decide) rfl (fun ls hl => ?_)
      refine lv_iload hx hb dX0_setsSwungBy_28 (lv_at hl 0 rfl) ?_
      refine lv_if_eq (tgt := 60) hx hb dX0_setsSwungBy_30 (by decide) (fun hc => ?_) (fun hc => ?_)
      · have hf := if_t hf hc
        refine lv_iinc (v := (x4 + nI 1)) (lv' := [(4, .int (x4 + nI 1)), (5, .int s0), (0, .ref (ad 0)), (1, .int x1), (2, .int x2), (3, .int x3)]) hx hb dX0_setsSwungBy_60 hl (k := 5) rfl (ii_x 1 _) (by decide) rfl (fun ls hl => ?_)
        refine lv_goto (tgt := 5) hx hb dX0_setsSwungBy_63 (by decide) ?_
        have hK9 := K_of hf hK
        have hK9 := hW5 _ hK9
        exact hK9 _ _ _ hP hD hS (lv_sub hl [2, 3, 4, 5, 0] rfl)
      · have hf := if_f hf hc
        refine lv_aload_n hx hb dX0_setsSwungBy_33 rfl (lv_at hl 1 rfl) ?_
        refine lv_iload_n hx hb dX0_setsSwungBy_34 rfl (lv_at hl 2 rfl) ?_
        refine lv_iload hx hb dX0_setsSwungBy_35 (lv_at hl 5 rfl) ?_
        obtain ⟨r37, hc37, hf⟩ := bd_e hf
        refine cl_z_same (Wd := (wX0 G ad f)) (W' := (wX0 G ad f)) (va_runV (As := [.int x1, .int x4]) (rest := []) hC (c_X0_isInPower l G ad f x1 x4 r37 hc37 _) (cwV 2 hts gX0_setsSwungBy_X0_isInPower rfl rfl rfl (by decide +kernel) ⟨Nat.le_of_ble_eq_true rfl, Nat.le_of_ble_eq_true rfl⟩) ⟨Pc0_blind, va_recv hT hP (q0 := 0) (ci := 0) rfl rfl, fun U hU hW => Pc0_at hE hP hD hU hW⟩ rfl rfl hl.1 rfl (lv_room (Nat.le_of_ble_eq_true rfl)) dX0_setsSwungBy_37 ⟨Nat.zero_le _, Nat.zero_le _⟩) hS hA hD (fun H locs hn37 hP hD hS => ?_)
        refine lv_if_ne (tgt := 60) hx hb dX0_setsSwungBy_40 (by decide) (fun hc => ?_) (fun hc => ?_)
        · have hf := if_f hf hc
          refine lv_iinc (v := (x4 + nI 1)) (lv' := [(4, .int (x4 + nI 1)), (5, .int s0), (0, .ref (ad 0)), (1, .int x1), (2, .int x2), (3, .int x3)]) hx hb dX0_setsSwungBy_60 hl (k := 5) rfl (ii_x 1 _) (by decide) rfl (fun ls hl => ?_)
          refine lv_goto (tgt := 5) hx hb dX0_setsSwungBy_63 (by decide) ?_
          have hK9 := K_of hf hK
          have hK9 := hW5 _ hK9
          exact hK9 _ _ _ hP hD hS (lv_sub hl [2, 3, 4, 5, 0] rfl)
        · have hf := if_t hf hc
          refine lv_aload_n hx hb dX0_setsSwungBy_43 rfl (lv_at hl 1 rfl) ?_
          refine lv_iload_n hx hb dX0_setsSwungBy_44 rfl (lv_at hl 2 rfl) ?_
          refine lv_iload hx hb dX0_setsSwungBy_45 (lv_at hl 5 rfl) ?_
          refine lv_iconst (v := (nI 1)) hx hb dX0_setsSwungBy_47 (ic_1) ?_
          refine lv_iload_n hx hb dX0_setsSwungBy_48 rfl (lv_at hl 3 rfl) ?_
          refine lv_ishl hx hb dX0_setsSwungBy_49 ?_
          refine lv_ior hx hb dX0_setsSwungBy_50 ?_
          obtain ⟨r51, hc51, hf⟩ := bd_e hf
          refine cl_z_same (Wd := (wX0 G ad f)) (W' := (wX0 G ad f)) (va_runV (As := [.int x1, .int (x4 ||| ((nI 1) <<< (x2 &&& 31)))]) (rest := []) hC (c_X0_isInPower l G ad f x1 (x4 ||| ((nI 1) <<< (x2 &&& 31))) r51 hc51 _) (cwV 2 hts gX0_setsSwungBy_X0_isInPower rfl rfl rfl (by decide +kernel) ⟨Nat.le_of_ble_eq_true rfl, Nat.le_of_ble_eq_true rfl⟩) ⟨Pc0_blind, va_recv hT hP (q0 := 0) (ci := 0) rfl rfl, fun U hU hW => Pc0_at hE hP hD hU hW⟩ rfl rfl hl.1 rfl (lv_room (Nat.le_of_ble_eq_true rfl)) dX0_setsSwungBy_51 ⟨Nat.zero_le _, Nat.zero_le _⟩) hS hA hD (fun H locs hn51 hP hD hS => ?_)
          refine lv_if_eq (tgt := 60) hx hb dX0_setsSwungBy_54 (by decide) (fun hc => ?_) (fun hc => ?_)
          · have hf := if_t hf hc
            refine lv_iinc (v := (x4 + nI 1)) (lv' := [(4, .int (x4 + nI 1)), (5, .int s0), (0, .ref (ad 0)), (1, .int x1), (2, .int x2), (3, .int x3)]) hx hb dX0_setsSwungBy_60 hl (k := 5) rfl (ii_x 1 _) (by decide) rfl (fun ls hl => ?_)
            refine lv_goto (tgt := 5) hx hb dX0_setsSwungBy_63 (by decide) ?_
            have hK9 := K_of hf hK
            have hK9 := hW5 _ hK9
            exact hK9 _ _ _ hP hD hS (lv_sub hl [2, 3, 4, 5, 0] rfl)
          · have hf := if_f hf hc
            refine lv_iinc (v := (x3 + nI 1)) (lv' := [(3, .int (x3 + nI 1)), (5, .int s0), (0, .ref (ad 0)), (1, .int x1), (2, .int x2), (4, .int x4)]) hx hb dX0_setsSwungBy_57 hl (k := 4) rfl (ii_x 1 _) (by decide) rfl (fun ls hl => ?_)
            refine lv_iinc (v := (x4 + nI 1)) (lv' := [(4, .int (x4 + nI 1)), (3, .int (x3 + nI 1)), (5, .int s0), (0, .ref (ad 0)), (1, .int x1), (2, .int x2)]) hx hb dX0_setsSwungBy_60 hl (k := 5) rfl (ii_x 1 _) (by decide) rfl (fun ls hl => ?_)
            refine lv_goto (tgt := 5) hx hb dX0_setsSwungBy_63 (by decide) ?_
            have hK9 := K_of hf hK
            have hK9 := hW5 _ hK9
            exact hK9 _ _ _ hP hD hS (lv_sub hl [3, 4, 5, 1, 0] rfl)
    rintro ⟨x3, x4⟩ res hf hK H locs ls hP hD hS hl
    unfold p_X0_setsSwungBy_L5 at hf
    dsimp only at hf
    refine lv_iload hx hb dX0_setsSwungBy_5 (lv_at hl 4 rfl) ?_
    refine lv_bipush (v := (nI 32)) hx hb dX0_setsSwungBy_7 (bi_32) ?_
    refine lv_icmp_ge (tgt := 66) hx hb dX0_setsSwungBy_9 (by decide) (fun hc => ?_) (fun hc => ?_)
    · have hf := if_t hf hc
      have hK9 := K_of hf hK
      have hK9 := hX5 _ hK9
      exact hK9 _ _ _ hP hD hS (lv_sub hl [3] rfl)
    · have hf := if_f hf hc
      refine lv_iload hx hb dX0_setsSwungBy_12 (lv_at hl 4 rfl) ?_
      refine lv_iload_n hx hb dX0_setsSwungBy_14 rfl (lv_at hl 2 rfl) ?_
      refine lv_ishr hx hb dX0_setsSwungBy_15 ?_
      refine lv_iconst (v := (nI 1)) hx hb dX0_setsSwungBy_16 (ic_1) ?_
      refine lv_iand hx hb dX0_setsSwungBy_17 ?_
      refine lv_if_ne (tgt := 25) hx hb dX0_setsSwungBy_18 (by decide) (fun hc => ?_) (fun hc => ?_)
      · have hf := if_f hf hc
        refine lv_iconst (v := (nI 0)) hx hb dX0_setsSwungBy_25 (ic_0) ?_
        exact hB26 x3 x4 (nI 0) _ hf hK _ _ _ hP hD hS (lv_sub hl [0, 1, 2, 3, 4] rfl)
      · have hf := if_t hf hc
        refine lv_iconst (v := (nI 1)) hx hb dX0_setsSwungBy_21 (ic_1) ?_
        refine lv_goto (tgt := 26) hx hb dX0_setsSwungBy_22 (by decide) ?_
        exact hB26 x3 x4 (nI 1) _ hf hK _ _ _ hP hD hS (lv_sub hl [0, 1, 2, 3, 4] rfl)
  · try dsimp only at hf
    show ∀ (H : Heap) (locs : List Loc) (ls : Array Slot), va_P G.1 vwCl (wX0 G ad f) H → va_D A (wX0 G ad f) → va_S A s.heap H locs → lv_has ls 6 [(3, .int y3_5)] → W p l e ({ frames := 4, cells := 0, slots := 0, locals := 81 }) s m args below meth c H locs 0 0 Q (F0 m 66 ls [])
    intro H locs ls hP hD hS hl
    refine lv_iload_n hx hb dX0_setsSwungBy_66 rfl (lv_at hl 0 rfl) ?_
    have hK9 := K0_of hf hK
    exact hRet y3_5 _ _ _ _ hK9 dX0_setsSwungBy_67 hP hD hS
