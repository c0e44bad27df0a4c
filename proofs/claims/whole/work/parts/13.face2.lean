noncomputable def p_X6_grant (f : Mem) (fnow : Mem) (x1 : Int32) (x2 : Int32) (x3 : Int32) : Option (Int32 × Mem) :=
  Option.bind (p_X0_hasGoose fnow x1) <| fun r5 =>
  if r5 = 0 then
    (some ((-1 : Int32), fnow))
  else
    (Option.bind (p_X6_isOwner x2) <| fun r12 =>
     if r12 = 0 then
       (some ((-1 : Int32), fnow))
     else
       (Option.bind (p_X6_isWithin x3 (nI 0) (nI 99)) <| fun r22 =>
        if r22 = 0 then
          (some ((-1 : Int32), fnow))
        else
          (Option.bind (p_X6_replaced 15 (fnow 4) ((x1 * (nI 5)) + x2) x3) <| fun (r43, g_43) =>
           some (r43, (mrow 4 (g_43) fnow)))))
set_option maxHeartbeats 4000000 in
set_option maxRecDepth 100000 in
theorem c_X6_grant (l : Launch) (G : Gt) (ad : Nat → Nat) (ado : Nat → Nat → Nat) (f : Mem) (fnow : Mem) (x1 : Int32) (x2 : Int32) (x3 : Int32) (r : Int32) (fnowz : Mem) (hf : p_X6_grant f fnow x1 x2 x3 = some (r, fnowz)) (sz : Nat) : Met l yX6_grant wsX6_grant ({ frames := 3, cells := 0, slots := 0, locals := 57 }) (Pc0 G sz [.ref (ad 0), .int x1, .int x2, .int x3] (wX6 G ad ado f ++ (wX0 G (ado 1) fnow))) (Qi0 G (va_A (wX6 G ad ado f ++ (wX0 G (ado 1) fnow)) sz) r (wX6 G ad ado f ++ (wX0 G (ado 1) fnowz))) 0 0 (va_A (wX6 G ad ado f ++ (wX0 G (ado 1) fnow)) sz) := by
  refine metP (Qf := fun A => Qi0 G A r (wX6 G ad ado f ++ (wX0 G (ado 1) fnowz))) cX6_grant 4 (some .int) (by decide) rfl (Nat.le_of_ble_eq_true rfl) ?_
  intro p e s m below meth c A ls hC hr hlocks hin hE hA hsz hP hD hS hl
  generalize hargs : ([.ref (ad 0), .int x1, .int x2, .int x3] : List Value).toArray = args at hC ⊢
  obtain ⟨hx, hb, hml, hown, hts⟩ := id hC
  have hT : va_K G.1 vwCl (tyL G) s := hE.1
  have hRet : ∀ (r9 : Int32) (fnow9 : Mem) (H : Heap) (locs : List Loc) (ls : Array Slot) (pc : Nat) (hK9 : (r9, fnow9) = (r, fnowz)) (hdg : decode cX6_grant pc = .ok (.ireturn, 1)), va_P G.1 vwCl (wX6 G ad ado f ++ (wX0 G (ado 1) fnow9)) H → va_D A (wX6 G ad ado f ++ (wX0 G (ado 1) fnow9)) → va_S A s.heap H locs → W p l e ({ frames := 3, cells := 0, slots := 0, locals := 57 }) s m args below meth c H locs 0 0 (MQ below (Qi0 G A r (wX6 G ad ado f ++ (wX0 G (ado 1) fnowz))) args s 0 0 A) (F0 m pc ls [.int r9]) := by
    intro r9 fnow9 H locs ls pc hK9 hdg hP hD hS
    cases hK9
    exact W.iret hx hb hr (fun t ht hW => ⟨⟨r, (), rfl, rfl, by rw [ht]; exact hP, hD⟩, hS.F ht⟩) hS.2.2 hdg hlocks
  generalize MQ below (Qi0 G A r (wX6 G ad ado f ++ (wX0 G (ado 1) fnowz))) args s 0 0 A = Q at hRet ⊢
  have lk12 := hts (.fieldLink RX6 12 "FeatherShares" "now" "LFeatherShares$Flock;") (by decide +kernel)
  have inX6 : ∀ w ∈ u_ws RX6 TX6 11, w ∈ wsX6_grant := by decide +kernel
  have lk171 := va_Nw.use (A := args) rfl (hE.2.1 (RX6, 171, "FeatherShares$Flock", "feathers", "[I", "FeatherShares") (List.mem_of_getElem? (i := 18) rfl))
  have inX0 : ∀ w ∈ u_ws RX0 TX0 13, w ∈ wsX6_grant := by decide +kernel
  have hl : lv_has ls 4 [(0, .ref (ad 0)), (1, .int x1), (2, .int x2), (3, .int x3)] := hl
  have hK0 : (r, fnowz) = (r, fnowz) := rfl
  obtain ⟨res, hres, hK⟩ : ∃ res, p_X6_grant f fnow x1 x2 x3 = some res ∧ res = (r, fnowz) := ⟨_, hf, rfl⟩
  clear hf
  have hf := hres
  clear hres
  unfold p_X6_grant at hf
  refine lv_aload_n hx hb dX6_grant_0 rfl (lv_at hl 0 rfl) ?_
  refine va_get (C := RX6) (T := TX6) (N := 11) (ci := 6) (v := .ref ((ado 1) 0)) hx hb hts inX6 hown hT hP 0 rfl rfl 0 (Nat.le_of_ble_eq_true rfl) lk12 (fun _ h => h) rfl dX6_grant_1 ?_
  refine lv_iload_n hx hb dX6_grant_4 rfl (lv_at hl 1 rfl) ?_
  obtain ⟨r5, hc5, hf⟩ := bd_e hf
  refine cl_z_ro (Wd := (wX6 G ad ado f ++ (wX0 G (ado 1) fnow))) (Wc := (wX0 G (ado 1) fnow)) [4, 5, 6, 7, 8, 9, 10, 11, 12, 13, 14] rfl (va_runVN (As := [.int x1]) (rest := []) hC (c_X0_hasGoose l G (ado 1) fnow x1 r5 hc5 _) ⟨va_cnB 1 hts gX6_grant_X0_hasGoose_n126 rfl rfl rfl (hE.2.2 (RX6, 126, yX0_hasGoose, "FeatherShares") (List.mem_of_getElem? (i := 10) rfl)) (hts (.initialized RX0) (by decide +kernel)) (by decide +kernel) ⟨Nat.le_of_ble_eq_true rfl, Nat.le_of_ble_eq_true rfl⟩, hts (.instanceMethod yX0_hasGoose) (by decide +kernel), hts (.selects RX0 yX0_hasGoose yX0_hasGoose) (by decide +kernel)⟩ ⟨Pc0_blind, va_recv hT hP (q0 := 4) (ci := 0) rfl rfl, fun U hU hW => Pc0_at (Wd := (wX0 G (ado 1) fnow)) hE (hP.subm [4, 5, 6, 7, 8, 9, 10, 11, 12, 13, 14] rfl) (hD.sub [4, 5, 6, 7, 8, 9, 10, 11, 12, 13, 14] (by decide) rfl) hU hW⟩ rfl rfl hl.1 rfl (lv_room (Nat.le_of_ble_eq_true rfl)) dX6_grant_5 ⟨Nat.zero_le _, Nat.zero_le _⟩) hS hA hP hD (fun H locs hn5 hP hD hS => ?_)
  refine lv_if_eq (tgt := 28) hx hb dX6_grant_8 (by decide) (fun hc => ?_) (fun hc => ?_)
  · have hf := if_t hf hc
    refine lv_iconst (v := (-1 : Int32)) hx hb dX6_grant_28 (ic_m1) ?_
    have hK9 := K0_of hf hK
    exact hRet (-1 : Int32) fnow _ _ _ _ hK9 dX6_grant_29 hP hD hS
  · have hf := if_f hf hc
    refine lv_iload_n hx hb dX6_grant_11 rfl (lv_at hl 2 rfl) ?_
    obtain ⟨r12, hc12, hf⟩ := bd_e hf
    refine cl_z_ro (Wd := (wX6 G ad ado f ++ (wX0 G (ado 1) fnow))) (Wc := ([] : va_W)) [] rfl (va_runS (As := [.int x2]) (rest := []) hC (c_X6_isOwner l G x2 r12 hc12 _) (va_cwS 1 hts gX6_grant_X6_isOwner rfl rfl rfl (by decide +kernel) ⟨Nat.le_of_ble_eq_true rfl, Nat.le_of_ble_eq_true rfl⟩) ⟨Pc0_blind, fun U hU hW => Pc0_at (Wd := ([] : va_W)) hE (hP.subm [] rfl) (hD.sub [] (by decide) rfl) hU hW⟩ rfl rfl hl.1 rfl (lv_room (Nat.le_of_ble_eq_true rfl)) dX6_grant_12 ⟨Nat.zero_le _, Nat.zero_le _⟩) hS hA hP hD (fun H locs hn12 hP hD hS => ?_)
    refine lv_if_eq (tgt := 28) hx hb dX6_grant_15 (by decide) (fun hc => ?_) (fun hc => ?_)
    · have hf := if_t hf hc
      refine lv_iconst (v := (-1 : Int32)) hx hb dX6_grant_28 (ic_m1) ?_
      have hK9 := K0_of hf hK
      exact hRet (-1 : Int32) fnow _ _ _ _ hK9 dX6_grant_29 hP hD hS
    · have hf := if_f hf hc
      refine lv_iload_n hx hb dX6_grant_18 rfl (lv_at hl 3 rfl) ?_
      refine lv_iconst (v := (nI 0)) hx hb dX6_grant_19 (ic_0) ?_
      refine lv_bipush (v := (nI 99)) hx hb dX6_grant_20 (bi_99) ?_
      obtain ⟨r22, hc22, hf⟩ := bd_e hf
      refine cl_z_ro (Wd := (wX6 G ad ado f ++ (wX0 G (ado 1) fnow))) (Wc := ([] : va_W)) [] rfl (va_runS (As := [.int x3, .int (nI 0), .int (nI 99)]) (rest := []) hC (c_X6_isWithin l G x3 (nI 0) (nI 99) r22 hc22 _) (va_cwS 3 hts gX6_grant_X6_isWithin rfl rfl rfl (by decide +kernel) ⟨Nat.le_of_ble_eq_true rfl, Nat.le_of_ble_eq_true rfl⟩) ⟨Pc0_blind, fun U hU hW => Pc0_at (Wd := ([] : va_W)) hE (hP.subm [] rfl) (hD.sub [] (by decide) rfl) hU hW⟩ rfl rfl hl.1 rfl (lv_room (Nat.le_of_ble_eq_true rfl)) dX6_grant_22 ⟨Nat.zero_le _, Nat.zero_le _⟩) hS hA hP hD (fun H locs hn22 hP hD hS => ?_)
      refine lv_if_ne (tgt := 30) hx hb dX6_grant_25 (by decide) (fun hc => ?_) (fun hc => ?_)
      · have hf := if_f hf hc
        refine lv_aload_n hx hb dX6_grant_30 rfl (lv_at hl 0 rfl) ?_
        refine va_get (C := RX6) (T := TX6) (N := 11) (ci := 6) (v := .ref ((ado 1) 0)) hx hb hts inX6 hown hT hP 0 rfl rfl 0 (Nat.le_of_ble_eq_true rfl) lk12 (fun _ h => h) rfl dX6_grant_31 ?_
        refine va_getN (C := RX0) (T := TX0) (N := 13) (ci := 0) (v := .ref ((ado 1) 4)) hx hb hts inX0 hown hT hP 4 rfl rfl 6 (Nat.le_of_ble_eq_true rfl) lk171 (fun _ h => h) rfl dX6_grant_34 ?_
        refine lv_iload_n hx hb dX6_grant_37 rfl (lv_at hl 1 rfl) ?_
        refine lv_iconst (v := (nI 5)) hx hb dX6_grant_38 (ic_5) ?_
        refine lv_imul hx hb dX6_grant_39 ?_
        refine lv_iload_n hx hb dX6_grant_40 rfl (lv_at hl 2 rfl) ?_
        refine lv_iadd hx hb dX6_grant_41 ?_
        refine lv_iload_n hx hb dX6_grant_42 rfl (lv_at hl 3 rfl) ?_
        obtain ⟨⟨r43, g_43⟩, hc43, hf⟩ := bd_e hf
        try dsimp only at hf
        refine cl_i_up (Wd := (wX6 G ad ado f ++ (wX0 G (ado 1) fnow))) (Wc := (wRow G ((ado 1) 4) 15 (fnow 4))) (W' := (wRow G ((ado 1) 4) 15 g_43)) (W2 := (wX6 G ad ado f ++ (wX0 G (ado 1) (mrow 4 (g_43) fnow)))) (Wr := ([0, 1, 2, 3, 4, 5, 6, 7, 9, 10, 11, 12, 13, 14] : List Nat).filterMap (fun i => (wX6 G ad ado f ++ (wX0 G (ado 1) fnow))[i]?)) [8] [0, 1, 2, 3, 4, 5, 6, 7, 9, 10, 11, 12, 13, 14] rfl rfl rfl rfl rfl rfl (va_runS (As := [.ref ((ado 1) 4), .int ((x1 * (nI 5)) + x2), .int x3]) (rest := []) hC (c_X6_replaced l G ((ado 1) 4) 15 (fnow 4) ((x1 * (nI 5)) + x2) x3 r43 g_43 hc43 _) (va_cwS 3 hts gX6_grant_X6_replaced rfl rfl rfl (by decide +kernel) ⟨Nat.le_of_ble_eq_true rfl, Nat.le_of_ble_eq_true rfl⟩) ⟨Pc0_blind, fun U hU hW => Pc0_at (Wd := (wRow G ((ado 1) 4) 15 (fnow 4))) hE (hP.subm [8] rfl) (hD.sub [8] (by decide) rfl) hU hW⟩ rfl rfl hl.1 rfl (lv_room (Nat.le_of_ble_eq_true rfl)) dX6_grant_43 ⟨Nat.zero_le _, Nat.zero_le _⟩) hS hA hP hD (fun H locs hP hD hS => ?_)
        have hK9 := K0_of hf hK
        exact hRet r43 (mrow 4 (g_43) fnow) _ _ _ _ hK9 dX6_grant_46 hP hD hS
      · have hf := if_t hf hc
        refine lv_iconst (v := (-1 : Int32)) hx hb dX6_grant_28 (ic_m1) ?_
        have hK9 := K0_of hf hK
        exact hRet (-1 : Int32) fnow _ _ _ _ hK9 dX6_grant_29 hP hD hS
noncomputable def p_X6_plan (f : Mem) (fnow : Mem) (x1 : Int32) (x2 : Int32) (x3 : Int32) (x4 : Int32) : Option (Int32 × Mem) :=
  Option.bind (p_X0_isTrade fnow x1 x2 x3 x4) <| fun r9 =>
  if r9 = 0 then
    (some ((-1 : Int32), fnow))
  else
    (Option.bind (p_X0_addToPlan fnow x1 x2 x3 x4) <| fun (r26, fnow_26) =>
     if r26 = 0 then
       (some ((-3 : Int32), fnow_26))
     else
       (some ((fnow_26 0 2), fnow_26)))
set_option maxHeartbeats 4000000 in
set_option maxRecDepth 100000 in
theorem c_X6_plan (l : Launch) (G : Gt) (ad : Nat → Nat) (ado : Nat → Nat → Nat) (f : Mem) (fnow : Mem) (x1 : Int32) (x2 : Int32) (x3 : Int32) (x4 : Int32) (r : Int32) (fnowz : Mem) (hf : p_X6_plan f fnow x1 x2 x3 x4 = some (r, fnowz)) (sz : Nat) : Met l yX6_plan wsX6_plan ({ frames := 4, cells := 0, slots := 0, locals := 79 }) (Pc0 G sz [.ref (ad 0), .int x1, .int x2, .int x3, .int x4] (wX6 G ad ado f ++ (wX0 G (ado 1) fnow))) (Qi0 G (va_A (wX6 G ad ado f ++ (wX0 G (ado 1) fnow)) sz) r (wX6 G ad ado f ++ (wX0 G (ado 1) fnowz))) 0 0 (va_A (wX6 G ad ado f ++ (wX0 G (ado 1) fnow)) sz) := by
  refine metP (Qf := fun A => Qi0 G A r (wX6 G ad ado f ++ (wX0 G (ado 1) fnowz))) cX6_plan 5 (some .int) (by decide) rfl (Nat.le_of_ble_eq_true rfl) ?_
  intro p e s m below meth c A ls hC hr hlocks hin hE hA hsz hP hD hS hl
  generalize hargs : ([.ref (ad 0), .int x1, .int x2, .int x3, .int x4] : List Value).toArray = args at hC ⊢
  obtain ⟨hx, hb, hml, hown, hts⟩ := id hC
  have hT : va_K G.1 vwCl (tyL G) s := hE.1
  have hRet : ∀ (r9 : Int32) (fnow9 : Mem) (H : Heap) (locs : List Loc) (ls : Array Slot) (pc : Nat) (hK9 : (r9, fnow9) = (r, fnowz)) (hdg : decode cX6_plan pc = .ok (.ireturn, 1)), va_P G.1 vwCl (wX6 G ad ado f ++ (wX0 G (ado 1) fnow9)) H → va_D A (wX6 G ad ado f ++ (wX0 G (ado 1) fnow9)) → va_S A s.heap H locs → W p l e ({ frames := 4, cells := 0, slots := 0, locals := 79 }) s m args below meth c H locs 0 0 (MQ below (Qi0 G A r (wX6 G ad ado f ++ (wX0 G (ado 1) fnowz))) args s 0 0 A) (F0 m pc ls [.int r9]) := by
    intro r9 fnow9 H locs ls pc hK9 hdg hP hD hS
    cases hK9
    exact W.iret hx hb hr (fun t ht hW => ⟨⟨r, (), rfl, rfl, by rw [ht]; exact hP, hD⟩, hS.F ht⟩) hS.2.2 hdg hlocks
  generalize MQ below (Qi0 G A r (wX6 G ad ado f ++ (wX0 G (ado 1) fnowz))) args s 0 0 A = Q at hRet ⊢
  have lk12 := hts (.fieldLink RX6 12 "FeatherShares" "now" "LFeatherShares$Flock;") (by decide +kernel)
  have inX6 : ∀ w ∈ u_ws RX6 TX6 11, w ∈ wsX6_plan := by decide +kernel
  have lk109 := va_Nw.use (A := args) rfl (hE.2.1 (RX6, 109, "FeatherShares$Flock", "trades", "I", "FeatherShares") (List.mem_of_getElem? (i := 8) rfl))
  have inX0 : ∀ w ∈ u_ws RX0 TX0 13, w ∈ wsX6_plan := by decide +kernel
  have hl : lv_has ls 5 [(0, .ref (ad 0)), (1, .int x1), (2, .int x2), (3, .int x3), (4, .int x4)] := hl
  have hK0 : (r, fnowz) = (r, fnowz) := rfl
  obtain ⟨res, hres, hK⟩ : ∃ res, p_X6_plan f fnow x1 x2 x3 x4 = some res ∧ res = (r, fnowz) := ⟨_, hf, rfl⟩
  clear hf
  have hf := hres
  clear hres
  unfold p_X6_plan at hf
  refine lv_aload_n hx hb dX6_plan_0 rfl (lv_at hl 0 rfl) ?_
  refine va_get (C := RX6) (T := TX6) (N := 11) (ci := 6) (v := .ref ((ado 1) 0)) hx hb hts inX6 hown hT hP 0 rfl rfl 0 (Nat.le_of_ble_eq_true rfl) lk12 (fun _ h => h) rfl dX6_plan_1 ?_
  refine lv_iload_n hx hb dX6_plan_4 rfl (lv_at hl 1 rfl) ?_
  refine lv_iload_n hx hb dX6_plan_5 rfl (lv_at hl 2 rfl) ?_
  refine lv_iload_n hx hb dX6_plan_6 rfl (lv_at hl 3 rfl) ?_
  refine lv_iload hx hb dX6_plan_7 (lv_at hl 4 rfl) ?_
  obtain ⟨r9, hc9, hf⟩ := bd_e hf
  refine cl_z_ro (Wd := (wX6 G ad ado f ++ (wX0 G (ado 1) fnow))) (Wc := (wX0 G (ado 1) fnow)) [4, 5, 6, 7, 8, 9, 10, 11, 12, 13, 14] rfl (va_runVN (As := [.int x1, .int x2, .int x3, .int x4]) (rest := []) hC (c_X0_isTrade l G (ado 1) fnow x1 x2 x3 x4 r9 hc9 _) ⟨va_cnB 4 hts gX6_plan_X0_isTrade_n174 rfl rfl rfl (hE.2.2 (RX6, 174, yX0_isTrade, "FeatherShares") (List.mem_of_getElem? (i := 15) rfl)) (hts (.initialized RX0) (by decide +kernel)) (by decide +kernel) ⟨Nat.le_of_ble_eq_true rfl, Nat.le_of_ble_eq_true rfl⟩, hts (.instanceMethod yX0_isTrade) (by decide +kernel), hts (.selects RX0 yX0_isTrade yX0_isTrade) (by decide +kernel)⟩ ⟨Pc0_blind, va_recv hT hP (q0 := 4) (ci := 0) rfl rfl, fun U hU hW => Pc0_at (Wd := (wX0 G (ado 1) fnow)) hE (hP.subm [4, 5, 6, 7, 8, 9, 10, 11, 12, 13, 14] rfl) (hD.sub [4, 5, 6, 7, 8, 9, 10, 11, 12, 13, 14] (by decide) rfl) hU hW⟩ rfl rfl hl.1 rfl (lv_room (Nat.le_of_ble_eq_true rfl)) dX6_plan_9 ⟨Nat.zero_le _, Nat.zero_le _⟩) hS hA hP hD (fun H locs hn9 hP hD hS => ?_)
  refine lv_if_ne (tgt := 17) hx hb dX6_plan_12 (by decide) (fun hc => ?_) (fun hc => ?_)
  · have hf := if_f hf hc
    refine lv_aload_n hx hb dX6_plan_17 rfl (lv_at hl 0 rfl) ?_
    refine va_get (C := RX6) (T := TX6) (N := 11) (ci := 6) (v := .ref ((ado 1) 0)) hx hb hts inX6 hown hT hP 0 rfl rfl 0 (Nat.le_of_ble_eq_true rfl) lk12 (fun _ h => h) rfl dX6_plan_18 ?_
    refine lv_iload_n hx hb dX6_plan_21 rfl (lv_at hl 1 rfl) ?_
    refine lv_iload_n hx hb dX6_plan_22 rfl (lv_at hl 2 rfl) ?_
    refine lv_iload_n hx hb dX6_plan_23 rfl (lv_at hl 3 rfl) ?_
    refine lv_iload hx hb dX6_plan_24 (lv_at hl 4 rfl) ?_
    obtain ⟨⟨r26, fnow_26⟩, hc26, hf⟩ := bd_e hf
    try dsimp only at hf
    refine cl_z_up (Wd := (wX6 G ad ado f ++ (wX0 G (ado 1) fnow))) (Wc := (wX0 G (ado 1) fnow)) (W' := (wX0 G (ado 1) fnow_26)) (W2 := (wX6 G ad ado f ++ (wX0 G (ado 1) fnow_26))) (Wr := (wX6 G ad ado f)) [4, 5, 6, 7, 8, 9, 10, 11, 12, 13, 14] [0, 1, 2, 3] rfl rfl rfl rfl rfl rfl (va_runVN (As := [.int x1, .int x2, .int x3, .int x4]) (rest := []) hC (c_X0_addToPlan l G (ado 1) fnow x1 x2 x3 x4 r26 fnow_26 hc26 _) ⟨va_cnB 4 hts gX6_plan_X0_addToPlan_n178 rfl rfl rfl (hE.2.2 (RX6, 178, yX0_addToPlan, "FeatherShares") (List.mem_of_getElem? (i := 16) rfl)) (hts (.initialized RX0) (by decide +kernel)) (by decide +kernel) ⟨Nat.le_of_ble_eq_true rfl, Nat.le_of_ble_eq_true rfl⟩, hts (.instanceMethod yX0_addToPlan) (by decide +kernel), hts (.selects RX0 yX0_addToPlan yX0_addToPlan) (by decide +kernel)⟩ ⟨Pc0_blind, va_recv hT hP (q0 := 4) (ci := 0) rfl rfl, fun U hU hW => Pc0_at (Wd := (wX0 G (ado 1) fnow)) hE (hP.subm [4, 5, 6, 7, 8, 9, 10, 11, 12, 13, 14] rfl) (hD.sub [4, 5, 6, 7, 8, 9, 10, 11, 12, 13, 14] (by decide) rfl) hU hW⟩ rfl rfl hl.1 rfl (lv_room (Nat.le_of_ble_eq_true rfl)) dX6_plan_26 ⟨Nat.zero_le _, Nat.zero_le _⟩) hS hA hP hD (fun H locs hn26 hP hD hS => ?_)
    refine lv_if_eq (tgt := 42) hx hb dX6_plan_29 (by decide) (fun hc => ?_) (fun hc => ?_)
    · have hf := if_t hf hc
      refine lv_bipush (v := (-3 : Int32)) hx hb dX6_plan_42 (bi_m3) ?_
      have hK9 := K0_of hf hK
      exact hRet (-3 : Int32) fnow_26 _ _ _ _ hK9 dX6_plan_44 hP hD hS
    · have hf := if_f hf hc
      refine lv_aload_n hx hb dX6_plan_32 rfl (lv_at hl 0 rfl) ?_
      refine va_get (C := RX6) (T := TX6) (N := 11) (ci := 6) (v := .ref ((ado 1) 0)) hx hb hts inX6 hown hT hP 0 rfl rfl 0 (Nat.le_of_ble_eq_true rfl) lk12 (fun _ h => h) rfl dX6_plan_33 ?_
      refine va_getN (C := RX0) (T := TX0) (N := 13) (ci := 0) (v := .int (fnow_26 0 2)) hx hb hts inX0 hown hT hP 4 rfl rfl 2 (Nat.le_of_ble_eq_true rfl) lk109 (fun _ h => h) rfl dX6_plan_36 ?_
      refine lv_goto (tgt := 44) hx hb dX6_plan_39 (by decide) ?_
      have hK9 := K0_of hf hK
      exact hRet (fnow_26 0 2) fnow_26 _ _ _ _ hK9 dX6_plan_44 hP hD hS
  · have hf := if_t hf hc
    refine lv_iconst (v := (-1 : Int32)) hx hb dX6_plan_15 (ic_m1) ?_
    have hK9 := K0_of hf hK
    exact hRet (-1 : Int32) fnow _ _ _ _ hK9 dX6_plan_16 hP hD hS
noncomputable def p_X6_cut (f : Mem) (fnow : Mem) (x1 : Int32) : Option (Int32 × Mem) :=
  Option.bind (p_X6_isWithin x1 (nI 0) (fnow 0 2)) <| fun r9 =>
  if r9 = 0 then
    (some ((-1 : Int32), fnow))
  else
    (some ((fnow 0 2), (mset 0 2 x1 fnow)))
set_option maxHeartbeats 4000000 in
set_option maxRecDepth 100000 in
theorem c_X6_cut (l : Launch) (G : Gt) (ad : Nat → Nat) (ado : Nat → Nat → Nat) (f : Mem) (fnow : Mem) (x1 : Int32) (r : Int32) (fnowz : Mem) (hf : p_X6_cut f fnow x1 = some (r, fnowz)) (sz : Nat) : Met l yX6_cut wsX6_cut ({ frames := 2, cells := 0, slots := 0, locals := 34 }) (Pc0 G sz [.ref (ad 0), .int x1] (wX6 G ad ado f ++ (wX0 G (ado 1) fnow))) (Qi0 G (va_A (wX6 G ad ado f ++ (wX0 G (ado 1) fnow)) sz) r (wX6 G ad ado f ++ (wX0 G (ado 1) fnowz))) 0 0 (va_A (wX6 G ad ado f ++ (wX0 G (ado 1) fnow)) sz) := by
  refine metP (Qf := fun A => Qi0 G A r (wX6 G ad ado f ++ (wX0 G (ado 1) fnowz))) cX6_cut 3 (some .int) (by decide) rfl (Nat.le_of_ble_eq_true rfl) ?_
  intro p e s m below meth c A ls hC hr hlocks hin hE hA hsz hP hD hS hl
  generalize hargs : ([.ref (ad 0), .int x1] : List Value).toArray = args at hC ⊢
  obtain ⟨hx, hb, hml, hown, hts⟩ := id hC
  have hT : va_K G.1 vwCl (tyL G) s := hE.1
  have hRet : ∀ (r9 : Int32) (fnow9 : Mem) (H : Heap) (locs : List Loc) (ls : Array Slot) (pc : Nat) (hK9 : (r9, fnow9) = (r, fnowz)) (hdg : decode cX6_cut pc = .ok (.ireturn, 1)), va_P G.1 vwCl (wX6 G ad ado f ++ (wX0 G (ado 1) fnow9)) H → va_D A (wX6 G ad ado f ++ (wX0 G (ado 1) fnow9)) → va_S A s.heap H locs → W p l e ({ frames := 2, cells := 0, slots := 0, locals := 34 }) s m args below meth c H locs 0 0 (MQ below (Qi0 G A r (wX6 G ad ado f ++ (wX0 G (ado 1) fnowz))) args s 0 0 A) (F0 m pc ls [.int r9]) := by
    intro r9 fnow9 H locs ls pc hK9 hdg hP hD hS
    cases hK9
    exact W.iret hx hb hr (fun t ht hW => ⟨⟨r, (), rfl, rfl, by rw [ht]; exact hP, hD⟩, hS.F ht⟩) hS.2.2 hdg hlocks
  generalize MQ below (Qi0 G A r (wX6 G ad ado f ++ (wX0 G (ado 1) fnowz))) args s 0 0 A = Q at hRet ⊢
  have lk12 := hts (.fieldLink RX6 12 "FeatherShares" "now" "LFeatherShares$Flock;") (by decide +kernel)
  have inX6 : ∀ w ∈ u_ws RX6 TX6 11, w ∈ wsX6_cut := by decide +kernel
  have lk109 := va_Nw.use (A := args) rfl (hE.2.1 (RX6, 109, "FeatherShares$Flock", "trades", "I", "FeatherShares") (List.mem_of_getElem? (i := 8) rfl))
  have inX0 : ∀ w ∈ u_ws RX0 TX0 13, w ∈ wsX6_cut := by decide +kernel
  have hl : lv_has ls 3 [(0, .ref (ad 0)), (1, .int x1)] := hl
  have hK0 : (r, fnowz) = (r, fnowz) := rfl
  obtain ⟨res, hres, hK⟩ : ∃ res, p_X6_cut f fnow x1 = some res ∧ res = (r, fnowz) := ⟨_, hf, rfl⟩
  clear hf
  have hf := hres
  clear hres
  unfold p_X6_cut at hf
  refine lv_iload_n hx hb dX6_cut_0 rfl (lv_at hl 1 rfl) ?_
  refine lv_iconst (v := (nI 0)) hx hb dX6_cut_1 (ic_0) ?_
  refine lv_aload_n hx hb dX6_cut_2 rfl (lv_at hl 0 rfl) ?_
  refine va_get (C := RX6) (T := TX6) (N := 11) (ci := 6) (v := .ref ((ado 1) 0)) hx hb hts inX6 hown hT hP 0 rfl rfl 0 (Nat.le_of_ble_eq_true rfl) lk12 (fun _ h => h) rfl dX6_cut_3 ?_
  refine va_getN (C := RX0) (T := TX0) (N := 13) (ci := 0) (v := .int (fnow 0 2)) hx hb hts inX0 hown hT hP 4 rfl rfl 2 (Nat.le_of_ble_eq_true rfl) lk109 (fun _ h => h) rfl dX6_cut_6 ?_
  obtain ⟨r9, hc9, hf⟩ := bd_e hf
  refine cl_z_ro (Wd := (wX6 G ad ado f ++ (wX0 G (ado 1) fnow))) (Wc := ([] : va_W)) [] rfl (va_runS (As := [.int x1, .int (nI 0), .int (fnow 0 2)]) (rest := []) hC (c_X6_isWithin l G x1 (nI 0) (fnow 0 2) r9 hc9 _) (va_cwS 3 hts gX6_cut_X6_isWithin rfl rfl rfl (by decide +kernel) ⟨Nat.le_of_ble_eq_true rfl, Nat.le_of_ble_eq_true rfl⟩) ⟨Pc0_blind, fun U hU hW => Pc0_at (Wd := ([] : va_W)) hE (hP.subm [] rfl) (hD.sub [] (by decide) rfl) hU hW⟩ rfl rfl hl.1 rfl (lv_room (Nat.le_of_ble_eq_true rfl)) dX6_cut_9 ⟨Nat.zero_le _, Nat.zero_le _⟩) hS hA hP hD (fun H locs hn9 hP hD hS => ?_)
  refine lv_if_ne (tgt := 17) hx hb dX6_cut_12 (by decide) (fun hc => ?_) (fun hc => ?_)
  · have hf := if_f hf hc
    refine lv_aload_n hx hb dX6_cut_17 rfl (lv_at hl 0 rfl) ?_
    refine va_get (C := RX6) (T := TX6) (N := 11) (ci := 6) (v := .ref ((ado 1) 0)) hx hb hts inX6 hown hT hP 0 rfl rfl 0 (Nat.le_of_ble_eq_true rfl) lk12 (fun _ h => h) rfl dX6_cut_18 ?_
    refine va_getN (C := RX0) (T := TX0) (N := 13) (ci := 0) (v := .int (fnow 0 2)) hx hb hts inX0 hown hT hP 4 rfl rfl 2 (Nat.le_of_ble_eq_true rfl) lk109 (fun _ h => h) rfl dX6_cut_21 ?_
    refine lv_istore_n (lv' := [(2, .int (fnow 0 2)), (0, .ref (ad 0)), (1, .int x1)]) hx hb dX6_cut_24 rfl hl (by decide) rfl (fun ls hl => ?_)
    refine lv_aload_n hx hb dX6_cut_25 rfl (lv_at hl 1 rfl) ?_
    refine va_get (C := RX6) (T := TX6) (N := 11) (ci := 6) (v := .ref ((ado 1) 0)) hx hb hts inX6 hown hT hP 0 rfl rfl 0 (Nat.le_of_ble_eq_true rfl) lk12 (fun _ h => h) rfl dX6_cut_26 ?_
    refine lv_iload_n hx hb dX6_cut_29 rfl (lv_at hl 2 rfl) ?_
    refine va_putN (C := RX0) (T := TX0) (N := 13) (ci := 0) (ty := .int) (v := .int x1) hx hb hts inX0 tyX0 tyX0_ok nmX0 hown hT hP hD hS 4 rfl rfl 2 (Nat.le_of_ble_eq_true rfl) lk109 (fun _ h => h) rfl (by decide +kernel) rfl rfl (Nat.le_of_ble_eq_true rfl) dX6_cut_30 (fun H locs hP hD hS => ?_)
    have hP : va_P G.1 vwCl (wX6 G ad ado f ++ (wX0 G (ado 1) (mset 0 2 x1 fnow))) H := hP
    have hD : va_D A (wX6 G ad ado f ++ (wX0 G (ado 1) (mset 0 2 x1 fnow))) := hD
    refine lv_iload_n hx hb dX6_cut_33 rfl (lv_at hl 0 rfl) ?_
    have hK9 := K0_of hf hK
    exact hRet (fnow 0 2) (mset 0 2 x1 fnow) _ _ _ _ hK9 dX6_cut_34 hP hD hS
  · have hf := if_t hf hc
    refine lv_iconst (v := (-1 : Int32)) hx hb dX6_cut_15 (ic_m1) ?_
    have hK9 := K0_of hf hK
    exact hRet (-1 : Int32) fnow _ _ _ _ hK9 dX6_cut_16 hP hD hS
noncomputable def p_X6_buy (f : Mem) (fnow : Mem) (x1 : Int32) (x2 : Int32) (x3 : Int32) (x4 : Int32) : Option (Int32 × Mem) :=
  Option.bind (p_X0_isTrade fnow x1 x2 x3 x4) <| fun r9 =>
  if r9 = 0 then
    (some ((-1 : Int32), fnow))
  else
    (Option.bind (p_X0_canTrade fnow x1 x2 x3 x4) <| fun r26 =>
     if r26 = 0 then
       (some ((-2 : Int32), fnow))
     else
       (Option.bind (p_X0_exchange fnow x1 x2 x3 x4) <| fun fnow_44 =>
        gd (inb x1 5) <|
        some ((fnow_44 5 x1.toNatClampNeg), fnow_44)))
set_option maxHeartbeats 4000000 in
set_option maxRecDepth 100000 in
theorem c_X6_buy (l : Launch) (G : Gt) (ad : Nat → Nat) (ado : Nat → Nat → Nat) (f : Mem) (fnow : Mem) (x1 : Int32) (x2 : Int32) (x3 : Int32) (x4 : Int32) (r : Int32) (fnowz : Mem) (hf : p_X6_buy f fnow x1 x2 x3 x4 = some (r, fnowz)) (sz : Nat) : Met l yX6_buy wsX6_buy ({ frames := 4, cells := 0, slots := 0, locals := 83 }) (Pc0 G sz [.ref (ad 0), .int x1, .int x2, .int x3, .int x4] (wX6 G ad ado f ++ (wX0 G (ado 1) fnow))) (Qi0 G (va_A (wX6 G ad ado f ++ (wX0 G (ado 1) fnow)) sz) r (wX6 G ad ado f ++ (wX0 G (ado 1) fnowz))) 0 0 (va_A (wX6 G ad ado f ++ (wX0 G (ado 1) fnow)) sz) := by
  refine metP (Qf := fun A => Qi0 G A r (wX6 G ad ado f ++ (wX0 G (ado 1) fnowz))) cX6_buy 5 (some .int) (by decide) rfl (Nat.le_of_ble_eq_true rfl) ?_
  intro p e s m below meth c A ls hC hr hlocks hin hE hA hsz hP hD hS hl
  generalize hargs : ([.ref (ad 0), .int x1, .int x2, .int x3, .int x4] : List Value).toArray = args at hC ⊢
  obtain ⟨hx, hb, hml, hown, hts⟩ := id hC
  have hT : va_K G.1 vwCl (tyL G) s := hE.1
  have hRet : ∀ (r9 : Int32) (fnow9 : Mem) (H : Heap) (locs : List Loc) (ls : Array Slot) (pc : Nat) (hK9 : (r9, fnow9) = (r, fnowz)) (hdg : decode cX6_buy pc = .ok (.ireturn, 1)), va_P G.1 vwCl (wX6 G ad ado f ++ (wX0 G (ado 1) fnow9)) H → va_D A (wX6 G ad ado f ++ (wX0 G (ado 1) fnow9)) → va_S A s.heap H locs → W p l e ({ frames := 4, cells := 0, slots := 0, locals := 83 }) s m args below meth c H locs 0 0 (MQ below (Qi0 G A r (wX6 G ad ado f ++ (wX0 G (ado 1) fnowz))) args s 0 0 A) (F0 m pc ls [.int r9]) := by
    intro r9 fnow9 H locs ls pc hK9 hdg hP hD hS
    cases hK9
    exact W.iret hx hb hr (fun t ht hW => ⟨⟨r, (), rfl, rfl, by rw [ht]; exact hP, hD⟩, hS.F ht⟩) hS.2.2 hdg hlocks
  generalize MQ below (Qi0 G A r (wX6 G ad ado f ++ (wX0 G (ado 1) fnowz))) args s 0 0 A = Q at hRet ⊢
  have lk12 := hts (.fieldLink RX6 12 "FeatherShares" "now" "LFeatherShares$Flock;") (by decide +kernel)
  have inX6 : ∀ w ∈ u_ws RX6 TX6 11, w ∈ wsX6_buy := by decide +kernel
  have lk112 := va_Nw.use (A := args) rfl (hE.2.1 (RX6, 112, "FeatherShares$Flock", "money", "[I", "FeatherShares") (List.mem_of_getElem? (i := 9) rfl))
  have inX0 : ∀ w ∈ u_ws RX0 TX0 13, w ∈ wsX6_buy := by decide +kernel
  have hl : lv_has ls 5 [(0, .ref (ad 0)), (1, .int x1), (2, .int x2), (3, .int x3), (4, .int x4)] := hl
  have hK0 : (r, fnowz) = (r, fnowz) := rfl
  obtain ⟨res, hres, hK⟩ : ∃ res, p_X6_buy f fnow x1 x2 x3 x4 = some res ∧ res = (r, fnowz) := ⟨_, hf, rfl⟩
  clear hf
  have hf := hres
  clear hres
  unfold p_X6_buy at hf
  refine lv_aload_n hx hb dX6_buy_0 rfl (lv_at hl 0 rfl) ?_
  refine va_get (C := RX6) (T := TX6) (N := 11) (ci := 6) (v := .ref ((ado 1) 0)) hx hb hts inX6 hown hT hP 0 rfl rfl 0 (Nat.le_of_ble_eq_true rfl) lk12 (fun _ h => h) rfl dX6_buy_1 ?_
  refine lv_iload_n hx hb dX6_buy_4 rfl (lv_at hl 1 rfl) ?_
  refine lv_iload_n hx hb dX6_buy_5 rfl (lv_at hl 2 rfl) ?_
  refine lv_iload_n hx hb dX6_buy_6 rfl (lv_at hl 3 rfl) ?_
  refine lv_iload hx hb dX6_buy_7 (lv_at hl 4 rfl) ?_
  obtain ⟨r9, hc9, hf⟩ := bd_e hf
  refine cl_z_ro (Wd := (wX6 G ad ado f ++ (wX0 G (ado 1) fnow))) (Wc := (wX0 G (ado 1) fnow)) [4, 5, 6, 7, 8, 9, 10, 11, 12, 13, 14] rfl (va_runVN (As := [.int x1, .int x2, .int x3, .int x4]) (rest := []) hC (c_X0_isTrade l G (ado 1) fnow x1 x2 x3 x4 r9 hc9 _) ⟨va_cnB 4 hts gX6_buy_X0_isTrade_n174 rfl rfl rfl (hE.2.2 (RX6, 174, yX0_isTrade, "FeatherShares") (List.mem_of_getElem? (i := 15) rfl)) (hts (.initialized RX0) (by decide +kernel)) (by decide +kernel) ⟨Nat.le_of_ble_eq_true rfl, Nat.le_of_ble_eq_true rfl⟩, hts (.instanceMethod yX0_isTrade) (by decide +kernel), hts (.selects RX0 yX0_isTrade yX0_isTrade) (by decide +kernel)⟩ ⟨Pc0_blind, va_recv hT hP (q0 := 4) (ci := 0) rfl rfl, fun U hU hW => Pc0_at (Wd := (wX0 G (ado 1) fnow)) hE (hP.subm [4, 5, 6, 7, 8, 9, 10, 11, 12, 13, 14] rfl) (hD.sub [4, 5, 6, 7, 8, 9, 10, 11, 12, 13, 14] (by decide) rfl) hU hW⟩ rfl rfl hl.1 rfl (lv_room (Nat.le_of_ble_eq_true rfl)) dX6_buy_9 ⟨Nat.zero_le _, Nat.zero_le _⟩) hS hA hP hD (fun H locs hn9 hP hD hS => ?_)
  refine lv_if_ne (tgt := 17) hx hb dX6_buy_12 (by decide) (fun hc => ?_) (fun hc => ?_)
  · have hf := if_f hf hc
    refine lv_aload_n hx hb dX6_buy_17 rfl (lv_at hl 0 rfl) ?_
    refine va_get (C := RX6) (T := TX6) (N := 11) (ci := 6) (v := .ref ((ado 1) 0)) hx hb hts inX6 hown hT hP 0 rfl rfl 0 (Nat.le_of_ble_eq_true rfl) lk12 (fun _ h => h) rfl dX6_buy_18 ?_
    refine lv_iload_n hx hb dX6_buy_21 rfl (lv_at hl 1 rfl) ?_
    refine lv_iload_n hx hb dX6_buy_22 rfl (lv_at hl 2 rfl) ?_
    refine lv_iload_n hx hb dX6_buy_23 rfl (lv_at hl 3 rfl) ?_
    refine lv_iload hx hb dX6_buy_24 (lv_at hl 4 rfl) ?_
    obtain ⟨r26, hc26, hf⟩ := bd_e hf
    refine cl_z_ro (Wd := (wX6 G ad ado f ++ (wX0 G (ado 1) fnow))) (Wc := (wX0 G (ado 1) fnow)) [4, 5, 6, 7, 8, 9, 10, 11, 12, 13, 14] rfl (va_runVN (As := [.int x1, .int x2, .int x3, .int x4]) (rest := []) hC (c_X0_canTrade l G (ado 1) fnow x1 x2 x3 x4 r26 hc26 _) ⟨va_cnB 4 hts gX6_buy_X0_canTrade_n181 rfl rfl rfl (hE.2.2 (RX6, 181, yX0_canTrade, "FeatherShares") (List.mem_of_getElem? (i := 17) rfl)) (hts (.initialized RX0) (by decide +kernel)) (by decide +kernel) ⟨Nat.le_of_ble_eq_true rfl, Nat.le_of_ble_eq_true rfl⟩, hts (.instanceMethod yX0_canTrade) (by decide +kernel), hts (.selects RX0 yX0_canTrade yX0_canTrade) (by decide +kernel)⟩ ⟨Pc0_blind, va_recv hT hP (q0 := 4) (ci := 0) rfl rfl, fun U hU hW => Pc0_at (Wd := (wX0 G (ado 1) fnow)) hE (hP.subm [4, 5, 6, 7, 8, 9, 10, 11, 12, 13, 14] rfl) (hD.sub [4, 5, 6, 7, 8, 9, 10, 11, 12, 13, 14] (by decide) rfl) hU hW⟩ rfl rfl hl.1 rfl (lv_room (Nat.le_of_ble_eq_true rfl)) dX6_buy_26 ⟨Nat.zero_le _, Nat.zero_le _⟩) hS hA hP hD (fun H locs hn26 hP hD hS => ?_)
    refine lv_if_ne (tgt := 35) hx hb dX6_buy_29 (by decide) (fun hc => ?_) (fun hc => ?_)
    · have hf := if_f hf hc
      refine lv_aload_n hx hb dX6_buy_35 rfl (lv_at hl 0 rfl) ?_
      refine va_get (C := RX6) (T := TX6) (N := 11) (ci := 6) (v := .ref ((ado 1) 0)) hx hb hts inX6 hown hT hP 0 rfl rfl 0 (Nat.le_of_ble_eq_true rfl) lk12 (fun _ h => h) rfl dX6_buy_36 ?_
      refine lv_iload_n hx hb dX6_buy_39 rfl (lv_at hl 1 rfl) ?_
      refine lv_iload_n hx hb dX6_buy_40 rfl (lv_at hl 2 rfl) ?_
      refine lv_iload_n hx hb dX6_buy_41 rfl (lv_at hl 3 rfl) ?_
      refine lv_iload hx hb dX6_buy_42 (lv_at hl 4 rfl) ?_
      obtain ⟨fnow_44, hc44, hf⟩ := bd_e hf
      refine cl_v_up (Wd := (wX6 G ad ado f ++ (wX0 G (ado 1) fnow))) (Wc := (wX0 G (ado 1) fnow)) (W' := (wX0 G (ado 1) fnow_44)) (W2 := (wX6 G ad ado f ++ (wX0 G (ado 1) fnow_44))) (Wr := (wX6 G ad ado f)) [4, 5, 6, 7, 8, 9, 10, 11, 12, 13, 14] [0, 1, 2, 3] rfl rfl rfl rfl rfl rfl (va_runVN (As := [.int x1, .int x2, .int x3, .int x4]) (rest := []) hC (c_X0_exchange l G (ado 1) fnow x1 x2 x3 x4 fnow_44 hc44 _) ⟨va_cnB 4 hts gX6_buy_X0_exchange_n184 rfl rfl rfl (hE.2.2 (RX6, 184, yX0_exchange, "FeatherShares") (List.mem_of_getElem? (i := 18) rfl)) (hts (.initialized RX0) (by decide +kernel)) (by decide +kernel) ⟨Nat.le_of_ble_eq_true rfl, Nat.le_of_ble_eq_true rfl⟩, hts (.instanceMethod yX0_exchange) (by decide +kernel), hts (.selects RX0 yX0_exchange yX0_exchange) (by decide +kernel)⟩ ⟨Pc0_blind, va_recv hT hP (q0 := 4) (ci := 0) rfl rfl, fun U hU hW => Pc0_at (Wd := (wX0 G (ado 1) fnow)) hE (hP.subm [4, 5, 6, 7, 8, 9, 10, 11, 12, 13, 14] rfl) (hD.sub [4, 5, 6, 7, 8, 9, 10, 11, 12, 13, 14] (by decide) rfl) hU hW⟩ rfl rfl hl.1 rfl (lv_room (Nat.le_of_ble_eq_true rfl)) dX6_buy_44 ⟨Nat.zero_le _, Nat.zero_le _⟩) hS hA hP hD (fun H locs hP hD hS => ?_)
      refine lv_aload_n hx hb dX6_buy_47 rfl (lv_at hl 0 rfl) ?_
      refine va_get (C := RX6) (T := TX6) (N := 11) (ci := 6) (v := .ref ((ado 1) 0)) hx hb hts inX6 hown hT hP 0 rfl rfl 0 (Nat.le_of_ble_eq_true rfl) lk12 (fun _ h => h) rfl dX6_buy_48 ?_
      refine va_getN (C := RX0) (T := TX0) (N := 13) (ci := 0) (v := .ref ((ado 1) 5)) hx hb hts inX0 hown hT hP 4 rfl rfl 7 (Nat.le_of_ble_eq_true rfl) lk112 (fun _ h => h) rfl dX6_buy_51 ?_
      refine lv_iload_n hx hb dX6_buy_54 rfl (lv_at hl 1 rfl) ?_
      obtain ⟨hg, hf⟩ := gd_e hf
      refine va_iald (f := fnow_44 5) hx hb hT hP 9 0 rfl rfl (inb_e hg) dX6_buy_55 ?_
      have hK9 := K0_of hf hK
      exact hRet (fnow_44 5 x1.toNatClampNeg) fnow_44 _ _ _ _ hK9 dX6_buy_56 hP hD hS
    · have hf := if_t hf hc
      refine lv_bipush (v := (-2 : Int32)) hx hb dX6_buy_32 (bi_m2) ?_
      have hK9 := K0_of hf hK
      exact hRet (-2 : Int32) fnow _ _ _ _ hK9 dX6_buy_34 hP hD hS
  · have hf := if_t hf hc
    refine lv_iconst (v := (-1 : Int32)) hx hb dX6_buy_15 (ic_m1) ?_
    have hK9 := K0_of hf hK
    exact hRet (-1 : Int32) fnow _ _ _ _ hK9 dX6_buy_16 hP hD hS
noncomputable def p_X6_pluck (f : Mem) (fnow : Mem) (x1 : Int32) (x2 : Int32) (x3 : Int32) (x4 : Int32) : Option (Int32 × Mem) :=
  Option.bind (p_X0_isTrade fnow x1 x2 x3 x4) <| fun r9 =>
  if r9 = 0 then
    (some ((-1 : Int32), fnow))
  else
    (Option.bind (p_X0_canPluck fnow x1 x2 x3 x4) <| fun r26 =>
     if r26 = 0 then
       (some ((-2 : Int32), fnow))
     else
       (Option.bind (p_X0_moveFeathers fnow x1 x2 x3 x4) <| fun fnow_44 =>
        Option.bind (p_X0_held fnow_44 x3 x1) <| fun r53 =>
        some (r53, fnow_44)))
set_option maxHeartbeats 4000000 in
set_option maxRecDepth 100000 in
theorem c_X6_pluck (l : Launch) (G : Gt) (ad : Nat → Nat) (ado : Nat → Nat → Nat) (f : Mem) (fnow : Mem) (x1 : Int32) (x2 : Int32) (x3 : Int32) (x4 : Int32) (r : Int32) (fnowz : Mem) (hf : p_X6_pluck f fnow x1 x2 x3 x4 = some (r, fnowz)) (sz : Nat) : Met l yX6_pluck wsX6_pluck ({ frames := 4, cells := 0, slots := 0, locals := 79 }) (Pc0 G sz [.ref (ad 0), .int x1, .int x2, .int x3, .int x4] (wX6 G ad ado f ++ (wX0 G (ado 1) fnow))) (Qi0 G (va_A (wX6 G ad ado f ++ (wX0 G (ado 1) fnow)) sz) r (wX6 G ad ado f ++ (wX0 G (ado 1) fnowz))) 0 0 (va_A (wX6 G ad ado f ++ (wX0 G (ado 1) fnow)) sz) := by
  refine metP (Qf := fun A => Qi0 G A r (wX6 G ad ado f ++ (wX0 G (ado 1) fnowz))) cX6_pluck 5 (some .int) (by decide) rfl (Nat.le_of_ble_eq_true rfl) ?_
  intro p e s m below meth c A ls hC hr hlocks hin hE hA hsz hP hD hS hl
  generalize hargs : ([.ref (ad 0), .int x1, .int x2, .int x3, .int x4] : List Value).toArray = args at hC ⊢
  obtain ⟨hx, hb, hml, hown, hts⟩ := id hC
  have hT : va_K G.1 vwCl (tyL G) s := hE.1
  have hRet : ∀ (r9 : Int32) (fnow9 : Mem) (H : Heap) (locs : List Loc) (ls : Array Slot) (pc : Nat) (hK9 : (r9, fnow9) = (r, fnowz)) (hdg : decode cX6_pluck pc = .ok (.ireturn, 1)), va_P G.1 vwCl (wX6 G ad ado f ++ (wX0 G (ado 1) fnow9)) H → va_D A (wX6 G ad ado f ++ (wX0 G (ado 1) fnow9)) → va_S A s.heap H locs → W p l e ({ frames := 4, cells := 0, slots := 0, locals := 79 }) s m args below meth c H locs 0 0 (MQ below (Qi0 G A r (wX6 G ad ado f ++ (wX0 G (ado 1) fnowz))) args s 0 0 A) (F0 m pc ls [.int r9]) := by
    intro r9 fnow9 H locs ls pc hK9 hdg hP hD hS
    cases hK9
    exact W.iret hx hb hr (fun t ht hW => ⟨⟨r, (), rfl, rfl, by rw [ht]; exact hP, hD⟩, hS.F ht⟩) hS.2.2 hdg hlocks
  generalize MQ below (Qi0 G A r (wX6 G ad ado f ++ (wX0 G (ado 1) fnowz))) args s 0 0 A = Q at hRet ⊢
  have lk12 := hts (.fieldLink RX6 12 "FeatherShares" "now" "LFeatherShares$Flock;") (by decide +kernel)
  have inX6 : ∀ w ∈ u_ws RX6 TX6 11, w ∈ wsX6_pluck := by decide +kernel
  have hl : lv_has ls 5 [(0, .ref (ad 0)), (1, .int x1), (2, .int x2), (3, .int x3), (4, .int x4)] := hl
  have hK0 : (r, fnowz) = (r, fnowz) := rfl
  obtain ⟨res, hres, hK⟩ : ∃ res, p_X6_pluck f fnow x1 x2 x3 x4 = some res ∧ res = (r, fnowz) := ⟨_, hf, rfl⟩
  clear hf
  have hf := hres
  clear hres
  unfold p_X6_pluck at hf
  refine lv_aload_n hx hb dX6_pluck_0 rfl (lv_at hl 0 rfl) ?_
  refine va_get (C := RX6) (T := TX6) (N := 11) (ci := 6) (v := .ref ((ado 1) 0)) hx hb hts inX6 hown hT hP 0 rfl rfl 0 (Nat.le_of_ble_eq_true rfl) lk12 (fun _ h => h) rfl dX6_pluck_1 ?_
  refine lv_iload_n hx hb dX6_pluck_4 rfl (lv_at hl 1 rfl) ?_
  refine lv_iload_n hx hb dX6_pluck_5 rfl (lv_at hl 2 rfl) ?_
  refine lv_iload_n hx hb dX6_pluck_6 rfl (lv_at hl 3 rfl) ?_
  refine lv_iload hx hb dX6_pluck_7 (lv_at hl 4 rfl) ?_
  obtain ⟨r9, hc9, hf⟩ := bd_e hf
  refine cl_z_ro (Wd := (wX6 G ad ado f ++ (wX0 G (ado 1) fnow))) (Wc := (wX0 G (ado 1) fnow)) [4, 5, 6, 7, 8, 9, 10, 11, 12, 13, 14] rfl (va_runVN (As := [.int x1, .int x2, .int x3, .int x4]) (rest := []) hC (c_X0_isTrade l G (ado 1) fnow x1 x2 x3 x4 r9 hc9 _) ⟨va_cnB 4 hts gX6_pluck_X0_isTrade_n174 rfl rfl rfl (hE.2.2 (RX6, 174, yX0_isTrade, "FeatherShares") (List.mem_of_getElem? (i := 15) rfl)) (hts (.initialized RX0) (by decide +kernel)) (by decide +kernel) ⟨Nat.le_of_ble_eq_true rfl, Nat.le_of_ble_eq_true rfl⟩, hts (.instanceMethod yX0_isTrade) (by decide +kernel), hts (.selects RX0 yX0_isTrade yX0_isTrade) (by decide +kernel)⟩ ⟨Pc0_blind, va_recv hT hP (q0 := 4) (ci := 0) rfl rfl, fun U hU hW => Pc0_at (Wd := (wX0 G (ado 1) fnow)) hE (hP.subm [4, 5, 6, 7, 8, 9, 10, 11, 12, 13, 14] rfl) (hD.sub [4, 5, 6, 7, 8, 9, 10, 11, 12, 13, 14] (by decide) rfl) hU hW⟩ rfl rfl hl.1 rfl (lv_room (Nat.le_of_ble_eq_true rfl)) dX6_pluck_9 ⟨Nat.zero_le _, Nat.zero_le _⟩) hS hA hP hD (fun H locs hn9 hP hD hS => ?_)
  refine lv_if_ne (tgt := 17) hx hb dX6_pluck_12 (by decide) (fun hc => ?_) (fun hc => ?_)
  · have hf := if_f hf hc
    refine lv_aload_n hx hb dX6_pluck_17 rfl (lv_at hl 0 rfl) ?_
    refine va_get (C := RX6) (T := TX6) (N := 11) (ci := 6) (v := .ref ((ado 1) 0)) hx hb hts inX6 hown hT hP 0 rfl rfl 0 (Nat.le_of_ble_eq_true rfl) lk12 (fun _ h => h) rfl dX6_pluck_18 ?_
    refine lv_iload_n hx hb dX6_pluck_21 rfl (lv_at hl 1 rfl) ?_
    refine lv_iload_n hx hb dX6_pluck_22 rfl (lv_at hl 2 rfl) ?_
    refine lv_iload_n hx hb dX6_pluck_23 rfl (lv_at hl 3 rfl) ?_
    refine lv_iload hx hb dX6_pluck_24 (lv_at hl 4 rfl) ?_
    obtain ⟨r26, hc26, hf⟩ := bd_e hf
    refine cl_z_ro (Wd := (wX6 G ad ado f ++ (wX0 G (ado 1) fnow))) (Wc := (wX0 G (ado 1) fnow)) [4, 5, 6, 7, 8, 9, 10, 11, 12, 13, 14] rfl (va_runVN (As := [.int x1, .int x2, .int x3, .int x4]) (rest := []) hC (c_X0_canPluck l G (ado 1) fnow x1 x2 x3 x4 r26 hc26 _) ⟨va_cnB 4 hts gX6_pluck_X0_canPluck_n188 rfl rfl rfl (hE.2.2 (RX6, 188, yX0_canPluck, "FeatherShares") (List.mem_of_getElem? (i := 19) rfl)) (hts (.initialized RX0) (by decide +kernel)) (by decide +kernel) ⟨Nat.le_of_ble_eq_true rfl, Nat.le_of_ble_eq_true rfl⟩, hts (.instanceMethod yX0_canPluck) (by decide +kernel), hts (.selects RX0 yX0_canPluck yX0_canPluck) (by decide +kernel)⟩ ⟨Pc0_blind, va_recv hT hP (q0 := 4) (ci := 0) rfl rfl, fun U hU hW => Pc0_at (Wd := (wX0 G (ado 1) fnow)) hE (hP.subm [4, 5, 6, 7, 8, 9, 10, 11, 12, 13, 14] rfl) (hD.sub [4, 5, 6, 7, 8, 9, 10, 11, 12, 13, 14] (by decide) rfl) hU hW⟩ rfl rfl hl.1 rfl (lv_room (Nat.le_of_ble_eq_true rfl)) dX6_pluck_26 ⟨Nat.zero_le _, Nat.zero_le _⟩) hS hA hP hD (fun H locs hn26 hP hD hS => ?_)
    refine lv_if_ne (tgt := 35) hx hb dX6_pluck_29 (by decide) (fun hc => ?_) (fun hc => ?_)
    · have hf := if_f hf hc
      refine lv_aload_n hx hb dX6_pluck_35 rfl (lv_at hl 0 rfl) ?_
      refine va_get (C := RX6) (T := TX6) (N := 11) (ci := 6) (v := .ref ((ado 1) 0)) hx hb hts inX6 hown hT hP 0 rfl rfl 0 (Nat.le_of_ble_eq_true rfl) lk12 (fun _ h => h) rfl dX6_pluck_36 ?_
      refine lv_iload_n hx hb dX6_pluck_39 rfl (lv_at hl 1 rfl) ?_
      refine lv_iload_n hx hb dX6_pluck_40 rfl (lv_at hl 2 rfl) ?_
      refine lv_iload_n hx hb dX6_pluck_41 rfl (lv_at hl 3 rfl) ?_
      refine lv_iload hx hb dX6_pluck_42 (lv_at hl 4 rfl) ?_
      obtain ⟨fnow_44, hc44, hf⟩ := bd_e hf
      refine cl_v_up (Wd := (wX6 G ad ado f ++ (wX0 G (ado 1) fnow))) (Wc := (wX0 G (ado 1) fnow)) (W' := (wX0 G (ado 1) fnow_44)) (W2 := (wX6 G ad ado f ++ (wX0 G (ado 1) fnow_44))) (Wr := (wX6 G ad ado f)) [4, 5, 6, 7, 8, 9, 10, 11, 12, 13, 14] [0, 1, 2, 3] rfl rfl rfl rfl rfl rfl (va_runVN (As := [.int x1, .int x2, .int x3, .int x4]) (rest := []) hC (c_X0_moveFeathers l G (ado 1) fnow x1 x2 x3 x4 fnow_44 hc44 _) ⟨va_cnB 4 hts gX6_pluck_X0_moveFeathers_n191 rfl rfl rfl (hE.2.2 (RX6, 191, yX0_moveFeathers, "FeatherShares") (List.mem_of_getElem? (i := 20) rfl)) (hts (.initialized RX0) (by decide +kernel)) (by decide +kernel) ⟨Nat.le_of_ble_eq_true rfl, Nat.le_of_ble_eq_true rfl⟩, hts (.instanceMethod yX0_moveFeathers) (by decide +kernel), hts (.selects RX0 yX0_moveFeathers yX0_moveFeathers) (by decide +kernel)⟩ ⟨Pc0_blind, va_recv hT hP (q0 := 4) (ci := 0) rfl rfl, fun U hU hW => Pc0_at (Wd := (wX0 G (ado 1) fnow)) hE (hP.subm [4, 5, 6, 7, 8, 9, 10, 11, 12, 13, 14] rfl) (hD.sub [4, 5, 6, 7, 8, 9, 10, 11, 12, 13, 14] (by decide) rfl) hU hW⟩ rfl rfl hl.1 rfl (lv_room (Nat.le_of_ble_eq_true rfl)) dX6_pluck_44 ⟨Nat.zero_le _, Nat.zero_le _⟩) hS hA hP hD (fun H locs hP hD hS => ?_)
      refine lv_aload_n hx hb dX6_pluck_47 rfl (lv_at hl 0 rfl) ?_
      refine va_get (C := RX6) (T := TX6) (N := 11) (ci := 6) (v := .ref ((ado 1) 0)) hx hb hts inX6 hown hT hP 0 rfl rfl 0 (Nat.le_of_ble_eq_true rfl) lk12 (fun _ h => h) rfl dX6_pluck_48 ?_
      refine lv_iload_n hx hb dX6_pluck_51 rfl (lv_at hl 3 rfl) ?_
      refine lv_iload_n hx hb dX6_pluck_52 rfl (lv_at hl 1 rfl) ?_
      obtain ⟨r53, hc53, hf⟩ := bd_e hf
      refine cl_i_ro (Wd := (wX6 G ad ado f ++ (wX0 G (ado 1) fnow_44))) (Wc := (wX0 G (ado 1) fnow_44)) [4, 5, 6, 7, 8, 9, 10, 11, 12, 13, 14] rfl (va_runVN (As := [.int x3, .int x1]) (rest := []) hC (c_X0_held l G (ado 1) fnow_44 x3 x1 r53 hc53 _) ⟨va_cnB 2 hts gX6_pluck_X0_held_n152 rfl rfl rfl (hE.2.2 (RX6, 152, yX0_held, "FeatherShares") (List.mem_of_getElem? (i := 14) rfl)) (hts (.initialized RX0) (by decide +kernel)) (by decide +kernel) ⟨Nat.le_of_ble_eq_true rfl, Nat.le_of_ble_eq_true rfl⟩, hts (.instanceMethod yX0_held) (by decide +kernel), hts (.selects RX0 yX0_held yX0_held) (by decide +kernel)⟩ ⟨Pc0_blind, va_recv hT hP (q0 := 4) (ci := 0) rfl rfl, fun U hU hW => Pc0_at (Wd := (wX0 G (ado 1) fnow_44)) hE (hP.subm [4, 5, 6, 7, 8, 9, 10, 11, 12, 13, 14] rfl) (hD.sub [4, 5, 6, 7, 8, 9, 10, 11, 12, 13, 14] (by decide) rfl) hU hW⟩ rfl rfl hl.1 rfl (lv_room (Nat.le_of_ble_eq_true rfl)) dX6_pluck_53 ⟨Nat.zero_le _, Nat.zero_le _⟩) hS hA hP hD (fun H locs hP hD hS => ?_)
      have hK9 := K0_of hf hK
      exact hRet r53 fnow_44 _ _ _ _ hK9 dX6_pluck_56 hP hD hS
    · have hf := if_t hf hc
      refine lv_bipush (v := (-2 : Int32)) hx hb dX6_pluck_32 (bi_m2) ?_
      have hK9 := K0_of hf hK
      exact hRet (-2 : Int32) fnow _ _ _ _ hK9 dX6_pluck_34 hP hD hS
  · have hf := if_t hf hc
    refine lv_iconst (v := (-1 : Int32)) hx hb dX6_pluck_15 (ic_m1) ?_
    have hK9 := K0_of hf hK
    exact hRet (-1 : Int32) fnow _ _ _ _ hK9 dX6_pluck_16 hP hD hS
noncomputable def p_X6_weeks (f : Mem) (fnow : Mem) (x1 : Int32) : Option (Int32 × Mem) :=
  Option.bind (p_X6_isWithin x1 (nI 0) (nI 30)) <| fun r4 =>
  if r4 = 0 then
    (some ((-1 : Int32), fnow))
  else
    (if ((fnow 0 1) + x1) ≤ (nI 999) then
       (Option.bind (p_X0_passWeeks fnow x1) <| fun (r35, fnow_35) =>
        some (r35, fnow_35))
     else
       (some ((-3 : Int32), fnow)))
set_option maxHeartbeats 4000000 in
set_option maxRecDepth 100000 in
theorem c_X6_weeks (l : Launch) (G : Gt) (ad : Nat → Nat) (ado : Nat → Nat → Nat) (f : Mem) (fnow : Mem) (x1 : Int32) (r : Int32) (fnowz : Mem) (hf : p_X6_weeks f fnow x1 = some (r, fnowz)) (sz : Nat) : Met l yX6_weeks wsX6_weeks ({ frames := 5, cells := 0, slots := 0, locals := 133 }) (Pc0 G sz [.ref (ad 0), .int x1] (wX6 G ad ado f ++ (wX0 G (ado 1) fnow))) (Qi0 G (va_A (wX6 G ad ado f ++ (wX0 G (ado 1) fnow)) sz) r (wX6 G ad ado f ++ (wX0 G (ado 1) fnowz))) 0 0 (va_A (wX6 G ad ado f ++ (wX0 G (ado 1) fnow)) sz) := by
  refine metP (Qf := fun A => Qi0 G A r (wX6 G ad ado f ++ (wX0 G (ado 1) fnowz))) cX6_weeks 2 (some .int) (by decide) rfl (Nat.le_of_ble_eq_true rfl) ?_
  intro p e s m below meth c A ls hC hr hlocks hin hE hA hsz hP hD hS hl
  generalize hargs : ([.ref (ad 0), .int x1] : List Value).toArray = args at hC ⊢
  obtain ⟨hx, hb, hml, hown, hts⟩ := id hC
  have hT : va_K G.1 vwCl (tyL G) s := hE.1
  have hRet : ∀ (r9 : Int32) (fnow9 : Mem) (H : Heap) (locs : List Loc) (ls : Array Slot) (pc : Nat) (hK9 : (r9, fnow9) = (r, fnowz)) (hdg : decode cX6_weeks pc = .ok (.ireturn, 1)), va_P G.1 vwCl (wX6 G ad ado f ++ (wX0 G (ado 1) fnow9)) H → va_D A (wX6 G ad ado f ++ (wX0 G (ado 1) fnow9)) → va_S A s.heap H locs → W p l e ({ frames := 5, cells := 0, slots := 0, locals := 133 }) s m args below meth c H locs 0 0 (MQ below (Qi0 G A r (wX6 G ad ado f ++ (wX0 G (ado 1) fnowz))) args s 0 0 A) (F0 m pc ls [.int r9]) := by
    intro r9 fnow9 H locs ls pc hK9 hdg hP hD hS
    cases hK9
    exact W.iret hx hb hr (fun t ht hW => ⟨⟨r, (), rfl, rfl, by rw [ht]; exact hP, hD⟩, hS.F ht⟩) hS.2.2 hdg hlocks
  generalize MQ below (Qi0 G A r (wX6 G ad ado f ++ (wX0 G (ado 1) fnowz))) args s 0 0 A = Q at hRet ⊢
  have lk12 := hts (.fieldLink RX6 12 "FeatherShares" "now" "LFeatherShares$Flock;") (by decide +kernel)
  have inX6 : ∀ w ∈ u_ws RX6 TX6 11, w ∈ wsX6_weeks := by decide +kernel
  have lk106 := va_Nw.use (A := args) rfl (hE.2.1 (RX6, 106, "FeatherShares$Flock", "week", "I", "FeatherShares") (List.mem_of_getElem? (i := 7) rfl))
  have inX0 : ∀ w ∈ u_ws RX0 TX0 13, w ∈ wsX6_weeks := by decide +kernel
  have hl : lv_has ls 2 [(0, .ref (ad 0)), (1, .int x1)] := hl
  have hK0 : (r, fnowz) = (r, fnowz) := rfl
  obtain ⟨res, hres, hK⟩ : ∃ res, p_X6_weeks f fnow x1 = some res ∧ res = (r, fnowz) := ⟨_, hf, rfl⟩
  clear hf
  have hf := hres
  clear hres
  unfold p_X6_weeks at hf
  refine lv_iload_n hx hb dX6_weeks_0 rfl (lv_at hl 1 rfl) ?_
  refine lv_iconst (v := (nI 0)) hx hb dX6_weeks_1 (ic_0) ?_
  refine lv_bipush (v := (nI 30)) hx hb dX6_weeks_2 (bi_30) ?_
  obtain ⟨r4, hc4, hf⟩ := bd_e hf
  refine cl_z_ro (Wd := (wX6 G ad ado f ++ (wX0 G (ado 1) fnow))) (Wc := ([] : va_W)) [] rfl (va_runS (As := [.int x1, .int (nI 0), .int (nI 30)]) (rest := []) hC (c_X6_isWithin l G x1 (nI 0) (nI 30) r4 hc4 _) (va_cwS 3 hts gX6_weeks_X6_isWithin rfl rfl rfl (by decide +kernel) ⟨Nat.le_of_ble_eq_true rfl, Nat.le_of_ble_eq_true rfl⟩) ⟨Pc0_blind, fun U hU hW => Pc0_at (Wd := ([] : va_W)) hE (hP.subm [] rfl) (hD.sub [] (by decide) rfl) hU hW⟩ rfl rfl hl.1 rfl (lv_room (Nat.le_of_ble_eq_true rfl)) dX6_weeks_4 ⟨Nat.zero_le _, Nat.zero_le _⟩) hS hA hP hD (fun H locs hn4 hP hD hS => ?_)
  refine lv_if_ne (tgt := 12) hx hb dX6_weeks_7 (by decide) (fun hc => ?_) (fun hc => ?_)
  · have hf := if_f hf hc
    refine lv_aload_n hx hb dX6_weeks_12 rfl (lv_at hl 0 rfl) ?_
    refine va_get (C := RX6) (T := TX6) (N := 11) (ci := 6) (v := .ref ((ado 1) 0)) hx hb hts inX6 hown hT hP 0 rfl rfl 0 (Nat.le_of_ble_eq_true rfl) lk12 (fun _ h => h) rfl dX6_weeks_13 ?_
    refine va_getN (C := RX0) (T := TX0) (N := 13) (ci := 0) (v := .int (fnow 0 1)) hx hb hts inX0 hown hT hP 4 rfl rfl 1 (Nat.le_of_ble_eq_true rfl) lk106 (fun _ h => h) rfl dX6_weeks_16 ?_
    refine lv_iload_n hx hb dX6_weeks_19 rfl (lv_at hl 1 rfl) ?_
    refine lv_iadd hx hb dX6_weeks_20 ?_
    refine lv_sipush (v := (nI 999)) hx hb dX6_weeks_21 (si_999) ?_
    refine lv_icmp_le (tgt := 30) hx hb dX6_weeks_24 (by decide) (fun hc => ?_) (fun hc => ?_)
    · have hf := if_t hf hc
      refine lv_aload_n hx hb dX6_weeks_30 rfl (lv_at hl 0 rfl) ?_
      refine va_get (C := RX6) (T := TX6) (N := 11) (ci := 6) (v := .ref ((ado 1) 0)) hx hb hts inX6 hown hT hP 0 rfl rfl 0 (Nat.le_of_ble_eq_true rfl) lk12 (fun _ h => h) rfl dX6_weeks_31 ?_
      refine lv_iload_n hx hb dX6_weeks_34 rfl (lv_at hl 1 rfl) ?_
      obtain ⟨⟨r35, fnow_35⟩, hc35, hf⟩ := bd_e hf
      try dsimp only at hf
      refine cl_i_up (Wd := (wX6 G ad ado f ++ (wX0 G (ado 1) fnow))) (Wc := (wX0 G (ado 1) fnow)) (W' := (wX0 G (ado 1) fnow_35)) (W2 := (wX6 G ad ado f ++ (wX0 G (ado 1) fnow_35))) (Wr := (wX6 G ad ado f)) [4, 5, 6, 7, 8, 9, 10, 11, 12, 13, 14] [0, 1, 2, 3] rfl rfl rfl rfl rfl rfl (va_runVN (As := [.int x1]) (rest := []) hC (c_X0_passWeeks l G (ado 1) fnow x1 r35 fnow_35 hc35 _) ⟨va_cnB 1 hts gX6_weeks_X0_passWeeks_n194 rfl rfl rfl (hE.2.2 (RX6, 194, yX0_passWeeks, "FeatherShares") (List.mem_of_getElem? (i := 21) rfl)) (hts (.initialized RX0) (by decide +kernel)) (by decide +kernel) ⟨Nat.le_of_ble_eq_true rfl, Nat.le_of_ble_eq_true rfl⟩, hts (.instanceMethod yX0_passWeeks) (by decide +kernel), hts (.selects RX0 yX0_passWeeks yX0_passWeeks) (by decide +kernel)⟩ ⟨Pc0_blind, va_recv hT hP (q0 := 4) (ci := 0) rfl rfl, fun U hU hW => Pc0_at (Wd := (wX0 G (ado 1) fnow)) hE (hP.subm [4, 5, 6, 7, 8, 9, 10, 11, 12, 13, 14] rfl) (hD.sub [4, 5, 6, 7, 8, 9, 10, 11, 12, 13, 14] (by decide) rfl) hU hW⟩ rfl rfl hl.1 rfl (lv_room (Nat.le_of_ble_eq_true rfl)) dX6_weeks_35 ⟨Nat.zero_le _, Nat.zero_le _⟩) hS hA hP hD (fun H locs hP hD hS => ?_)
      have hK9 := K0_of hf hK
      exact hRet r35 fnow_35 _ _ _ _ hK9 dX6_weeks_38 hP hD hS
    · have hf := if_f hf hc
      refine lv_bipush (v := (-3 : Int32)) hx hb dX6_weeks_27 (bi_m3) ?_
      have hK9 := K0_of hf hK
      exact hRet (-3 : Int32) fnow _ _ _ _ hK9 dX6_weeks_29 hP hD hS
  · have hf := if_t hf hc
    refine lv_iconst (v := (-1 : Int32)) hx hb dX6_weeks_10 (ic_m1) ?_
    have hK9 := K0_of hf hK
    exact hRet (-1 : Int32) fnow _ _ _ _ hK9 dX6_weeks_11 hP hD hS
noncomputable def p_X6_runs_L33 (f : Mem) (fnow : Mem) (x1 : Int32) (z : Int32 × Int32 × Int32 × Int32 × Mem) : Option ((Int32 × Int32 × Int32 × Int32 × Mem) ⊕ (Int32 × Int32 × Int32 × Mem)) :=
  match z with
  | (x2, x3, x4, x5, ftrial_) =>
    if (ftrial_ 0 2) ≤ x5 then
      (some (Sum.inr (x2, x3, x4, ftrial_)))
    else
      (Option.bind (p_X0_tryPlanned ftrial_ x5) <| fun (r51, ftrial_51) =>
       if r51 = 0 then
         (if x3 = (-4 : Int32) then
            (some (Sum.inl (x2, x5, x4, (x5 + nI 1), ftrial_51)))
          else
            (some (Sum.inl (x2, x3, x4, (x5 + nI 1), ftrial_51))))
       else
         (Option.bind (p_X0_costOfPlanned ftrial_51 x5) <| fun r68 =>
          some (Sum.inl ((x2 + nI 1), x3, (x4 + r68), (x5 + nI 1), ftrial_51))))
noncomputable def p_X6_runs (f : Mem) (fnow : Mem) (ftrial : Mem) (x1 : Int32) : Option (Int32 × Mem) :=
  Option.bind (p_X6_isWithin x1 (nI 0) (nI 2)) <| fun r3 =>
  if r3 = 0 then
    (some ((-1 : Int32), ftrial))
  else
    (Option.bind (p_X0_copyFrom ftrial fnow) <| fun ftrial_19 =>
     Option.bind (lp (p_X6_runs_L33 f fnow x1) ((nI 0), (-4 : Int32), (nI 0), (nI 0), ftrial_19)) <| fun (y2_33, y3_33, y4_33, ftrial_33) =>
     if x1 = 0 then
       (some (y2_33, ftrial_33))
     else
       (if x1 = (nI 1) then
          (some (y3_33, ftrial_33))
        else
          (some (y4_33, ftrial_33))))
set_option maxHeartbeats 4000000 in
set_option maxRecDepth 100000 in
theorem c_X6_runs (l : Launch) (G : Gt) (ad : Nat → Nat) (ado : Nat → Nat → Nat) (f : Mem) (fnow : Mem) (ftrial : Mem) (x1 : Int32) (r : Int32) (ftrialz : Mem) (hf : p_X6_runs f fnow ftrial x1 = some (r, ftrialz)) (sz : Nat) : Met l yX6_runs wsX6_runs ({ frames := 6, cells := 0, slots := 0, locals := 128 }) (Pc0 G sz [.ref (ad 0), .int x1] (wX6 G ad ado f ++ (wX0 G (ado 1) fnow ++ (wX0 G (ado 2) ftrial)))) (Qi0 G (va_A (wX6 G ad ado f ++ (wX0 G (ado 1) fnow ++ (wX0 G (ado 2) ftrial))) sz) r (wX6 G ad ado f ++ (wX0 G (ado 1) fnow ++ (wX0 G (ado 2) ftrialz)))) 0 0 (va_A (wX6 G ad ado f ++ (wX0 G (ado 1) fnow ++ (wX0 G (ado 2) ftrial))) sz) := by
  refine metP (Qf := fun A => Qi0 G A r (wX6 G ad ado f ++ (wX0 G (ado 1) fnow ++ (wX0 G (ado 2) ftrialz)))) cX6_runs 6 (some .int) (by decide) rfl (Nat.le_of_ble_eq_true rfl) ?_
  intro p e s m below meth c A ls hC hr hlocks hin hE hA hsz hP hD hS hl
  generalize hargs : ([.ref (ad 0), .int x1] : List Value).toArray = args at hC ⊢
  obtain ⟨hx, hb, hml, hown, hts⟩ := id hC
  have hT : va_K G.1 vwCl (tyL G) s := hE.1
  have hRet : ∀ (r9 : Int32) (ftrial9 : Mem) (H : Heap) (locs : List Loc) (ls : Array Slot) (pc : Nat) (hK9 : (r9, ftrial9) = (r, ftrialz)) (hdg : decode cX6_runs pc = .ok (.ireturn, 1)), va_P G.1 vwCl (wX6 G ad ado f ++ (wX0 G (ado 1) fnow ++ (wX0 G (ado 2) ftrial9))) H → va_D A (wX6 G ad ado f ++ (wX0 G (ado 1) fnow ++ (wX0 G (ado 2) ftrial9))) → va_S A s.heap H locs → W p l e ({ frames := 6, cells := 0, slots := 0, locals := 128 }) s m args below meth c H locs 0 0 (MQ below (Qi0 G A r (wX6 G ad ado f ++ (wX0 G (ado 1) fnow ++ (wX0 G (ado 2) ftrialz)))) args s 0 0 A) (F0 m pc ls [.int r9]) := by
    intro r9 ftrial9 H locs ls pc hK9 hdg hP hD hS
    cases hK9
    exact W.iret hx hb hr (fun t ht hW => ⟨⟨r, (), rfl, rfl, by rw [ht]; exact hP, hD⟩, hS.F ht⟩) hS.2.2 hdg hlocks
  generalize MQ below (Qi0 G A r (wX6 G ad ado f ++ (wX0 G (ado 1) fnow ++ (wX0 G (ado 2) ftrialz)))) args s 0 0 A = Q at hRet ⊢
  have lk16 := hts (.fieldLink RX6 16 "FeatherShares" "trial" "LFeatherShares$Flock;") (by decide +kernel)
  have inX6 : ∀ w ∈ u_ws RX6 TX6 11, w ∈ wsX6_runs := by decide +kernel
  have lk12 := hts (.fieldLink RX6 12 "FeatherShares" "now" "LFeatherShares$Flock;") (by decide +kernel)
  have lk109 := va_Nw.use (A := args) rfl (hE.2.1 (RX6, 109, "FeatherShares$Flock", "trades", "I", "FeatherShares") (List.mem_of_getElem? (i := 8) rfl))
  have inX0 : ∀ w ∈ u_ws RX0 TX0 13, w ∈ wsX6_runs := by decide +kernel
  have hl : lv_has ls 6 [(0, .ref (ad 0)), (1, .int x1)] := hl
  have hK0 : (r, ftrialz) = (r, ftrialz) := rfl
  obtain ⟨res, hres, hK⟩ : ∃ res, p_X6_runs f fnow ftrial x1 = some res ∧ res = (r, ftrialz) := ⟨_, hf, rfl⟩
  clear hf
  have hf := hres
  clear hres
  unfold p_X6_runs at hf
  refine lv_iload_n hx hb dX6_runs_0 rfl (lv_at hl 1 rfl) ?_
  refine lv_iconst (v := (nI 0)) hx hb dX6_runs_1 (ic_0) ?_
  refine lv_iconst (v := (nI 2)) hx hb dX6_runs_2 (ic_2) ?_
  obtain ⟨r3, hc3, hf⟩ := bd_e hf
  refine cl_z_ro (Wd := (wX6 G ad ado f ++ (wX0 G (ado 1) fnow ++ (wX0 G (ado 2) ftrial)))) (Wc := ([] : va_W)) [] rfl (va_runS (As := [.int x1, .int (nI 0), .int (nI 2)]) (rest := []) hC (c_X6_isWithin l G x1 (nI 0) (nI 2) r3 hc3 _) (va_cwS 3 hts gX6_runs_X6_isWithin rfl rfl rfl (by decide +kernel) ⟨Nat.le_of_ble_eq_true rfl, Nat.le_of_ble_eq_true rfl⟩) ⟨Pc0_blind, fun U hU hW => Pc0_at (Wd := ([] : va_W)) hE (hP.subm [] rfl) (hD.sub [] (by decide) rfl) hU hW⟩ rfl rfl hl.1 rfl (lv_room (Nat.le_of_ble_eq_true rfl)) dX6_runs_3 ⟨Nat.zero_le _, Nat.zero_le _⟩) hS hA hP hD (fun H locs hn3 hP hD hS => ?_)
  refine lv_if_ne (tgt := 11) hx hb dX6_runs_6 (by decide) (fun hc => ?_) (fun hc => ?_)
  · have hf := if_f hf hc
    refine lv_aload_n hx hb dX6_runs_11 rfl (lv_at hl 0 rfl) ?_
    refine va_get (C := RX6) (T := TX6) (N := 11) (ci := 6) (v := .ref ((ado 2) 0)) hx hb hts inX6 hown hT hP 0 rfl rfl 1 (Nat.le_of_ble_eq_true rfl) lk16 (fun _ h => h) rfl dX6_runs_12 ?_
    refine lv_aload_n hx hb dX6_runs_15 rfl (lv_at hl 0 rfl) ?_
    refine va_get (C := RX6) (T := TX6) (N := 11) (ci := 6) (v := .ref ((ado 1) 0)) hx hb hts inX6 hown hT hP 0 rfl rfl 0 (Nat.le_of_ble_eq_true rfl) lk12 (fun _ h => h) rfl dX6_runs_16 ?_
    obtain ⟨ftrial_19, hc19, hf⟩ := bd_e hf
    refine cl_v_up (Wd := (wX6 G ad ado f ++ (wX0 G (ado 1) fnow ++ (wX0 G (ado 2) ftrial)))) (Wc := (wX0 G (ado 2) ftrial ++ (wX0 G (ado 1) fnow))) (W' := (wX0 G (ado 2) ftrial_19 ++ (wX0 G (ado 1) fnow))) (W2 := (wX6 G ad ado f ++ (wX0 G (ado 1) fnow ++ (wX0 G (ado 2) ftrial_19)))) (Wr := (wX6 G ad ado f)) [15, 16, 17, 18, 19, 20, 21, 22, 23, 24, 25, 4, 5, 6, 7, 8, 9, 10, 11, 12, 13, 14] [0, 1, 2, 3] rfl rfl rfl rfl rfl rfl (va_runVN (As := [.ref ((ado 1) 0)]) (rest := []) hC (c_X0_copyFrom l G (ado 2) (ado 1) ftrial fnow ftrial_19 hc19 _) ⟨va_cnB 1 hts gX6_runs_X0_copyFrom_n93 rfl rfl rfl (hE.2.2 (RX6, 93, yX0_copyFrom, "FeatherShares") (List.mem_of_getElem? (i := 8) rfl)) (hts (.initialized RX0) (by decide +kernel)) (by decide +kernel) ⟨Nat.le_of_ble_eq_true rfl, Nat.le_of_ble_eq_true rfl⟩, hts (.instanceMethod yX0_copyFrom) (by decide +kernel), hts (.selects RX0 yX0_copyFrom yX0_copyFrom) (by decide +kernel)⟩ ⟨Pc0_blind, va_recv hT hP (q0 := 15) (ci := 0) rfl rfl, fun U hU hW => Pc0_at (Wd := (wX0 G (ado 2) ftrial ++ (wX0 G (ado 1) fnow))) hE (hP.subm [15, 16, 17, 18, 19, 20, 21, 22, 23, 24, 25, 4, 5, 6, 7, 8, 9, 10, 11, 12, 13, 14] rfl) (hD.sub [15, 16, 17, 18, 19, 20, 21, 22, 23, 24, 25, 4, 5, 6, 7, 8, 9, 10, 11, 12, 13, 14] (by decide) rfl) hU hW⟩ rfl rfl hl.1 rfl (lv_room (Nat.le_of_ble_eq_true rfl)) dX6_runs_19 ⟨Nat.zero_le _, Nat.zero_le _⟩) hS hA hP hD (fun H locs hP hD hS => ?_)
    refine lv_iconst (v := (nI 0)) hx hb dX6_runs_22 (ic_0) ?_
    refine lv_istore_n (lv' := [(2, .int (nI 0)), (0, .ref (ad 0)), (1, .int x1)]) hx hb dX6_runs_23 rfl hl (by decide) rfl (fun ls hl => ?_)
    refine lv_bipush (v := (-4 : Int32)) hx hb dX6_runs_24 (bi_m4) ?_
    refine lv_istore_n (lv' := [(3, .int (-4 : Int32)), (2, .int (nI 0)), (0, .ref (ad 0)), (1, .int x1)]) hx hb dX6_runs_26 rfl hl (by decide) rfl (fun ls hl => ?_)
    refine lv_iconst (v := (nI 0)) hx hb dX6_runs_27 (ic_0) ?_
    refine lv_istore (lv' := [(4, .int (nI 0)), (3, .int (-4 : Int32)), (2, .int (nI 0)), (0, .ref (ad 0)), (1, .int x1)]) hx hb dX6_runs_28 hl (by decide) rfl (fun ls hl => ?_)
    refine lv_iconst (v := (nI 0)) hx hb dX6_runs_30 (ic_0) ?_
    refine lv_istore (lv' := [(5, .int (nI 0)), (4, .int (nI 0)), (3, .int (-4 : Int32)), (2, .int (nI 0)), (0, .ref (ad 0)), (1, .int x1)]) hx hb dX6_runs_31 hl (by decide) rfl (fun ls hl => ?_)
    obtain ⟨⟨y2_33, y3_33, y4_33, ftrial_33⟩, hlp, hf⟩ := bd_e hf
    refine lp_W1 (p_X6_runs_L33 f fnow x1) (fun z => match z with | (x2, x3, x4, x5, ftrial_) => ∀ (H : Heap) (locs : List Loc) (ls : Array Slot), va_P G.1 vwCl (wX6 G ad ado f ++ (wX0 G (ado 1) fnow ++ (wX0 G (ado 2) ftrial_))) H → va_D A (wX6 G ad ado f ++ (wX0 G (ado 1) fnow ++ (wX0 G (ado 2) ftrial_))) → va_S A s.heap H locs → lv_has ls 6 [(0, .ref (ad 0)), (1, .int x1), (2, .int x2), (3, .int x3), (4, .int x4), (5, .int x5)] → W p l e ({ frames := 6, cells := 0, slots := 0, locals := 128 }) s m args below meth c H locs 0 0 Q (F0 m 33 ls [])) (fun z => match z with | (y2_33, y3_33, y4_33, ftrial_33) => ∀ (H : Heap) (locs : List Loc) (ls : Array Slot), va_P G.1 vwCl (wX6 G ad ado f ++ (wX0 G (ado 1) fnow ++ (wX0 G (ado 2) ftrial_33))) H → va_D A (wX6 G ad ado f ++ (wX0 G (ado 1) fnow ++ (wX0 G (ado 2) ftrial_33))) → va_S A s.heap H locs → lv_has ls 6 [(1, .int x1), (2, .int y2_33), (3, .int y3_33), (4, .int y4_33)] → W p l e ({ frames := 6, cells := 0, slots := 0, locals := 128 }) s m args below meth c H locs 0 0 Q (F0 m 92 ls [])) ?_ hlp ?_ _ _ _ hP hD hS (lv_sub hl [4, 5, 3, 2, 1, 0] rfl)
    · clear hlp hf hK hP hD hS hl
      intro K33 hW33 hX33 
      rintro ⟨x2, x3, x4, x5, ftrial_⟩ res hf hK H locs ls hP hD hS hl
      unfold p_X6_runs_L33 at hf
      dsimp only at hf
      refine lv_iload hx hb dX6_runs_33 (lv_at hl 5 rfl) ?_
      refine lv_aload_n hx hb dX6_runs_35 rfl (lv_at hl 0 rfl) ?_
      refine va_get (C := RX6) (T := TX6) (N := 11) (ci := 6) (v := .ref ((ado 2) 0)) hx hb hts inX6 hown hT hP 0 rfl rfl 1 (Nat.le_of_ble_eq_true rfl) lk16 (fun _ h => h) rfl dX6_runs_36 ?_
      refine va_getN (C := RX0) (T := TX0) (N := 13) (ci := 0) (v := .int (ftrial_ 0 2)) hx hb hts inX0 hown hT hP 15 rfl rfl 2 (Nat.le_of_ble_eq_true rfl) lk109 (fun _ h => h) rfl dX6_runs_39 ?_
      refine lv_icmp_ge (tgt := 92) hx hb dX6_runs_42 (by decide) (fun hc => ?_) (fun hc => ?_)
      · have hf := if_t hf hc
        have hK9 := K_of hf hK
        have hK9 := hX33 _ hK9
        exact hK9 _ _ _ hP hD hS (lv_sub hl [1, 2, 3, 4] rfl)
      · have hf := if_f hf hc
        refine lv_aload_n hx hb dX6_runs_45 rfl (lv_at hl 0 rfl) ?_
        refine va_get (C := RX6) (T := TX6) (N := 11) (ci := 6) (v := .ref ((ado 2) 0)) hx hb hts inX6 hown hT hP 0 rfl rfl 1 (Nat.le_of_ble_eq_true rfl) lk16 (fun _ h => h) rfl dX6_runs_46 ?_
        refine lv_iload hx hb dX6_runs_49 (lv_at hl 5 rfl) ?_
        obtain ⟨⟨r51, ftrial_51⟩, hc51, hf⟩ := bd_e hf
        try dsimp only at hf
        refine cl_z_up (Wd := (wX6 G ad ado f ++ (wX0 G (ado 1) fnow ++ (wX0 G (ado 2) ftrial_)))) (Wc := (wX0 G (ado 2) ftrial_)) (W' := (wX0 G (ado 2) ftrial_51)) (W2 := (wX6 G ad ado f ++ (wX0 G (ado 1) fnow ++ (wX0 G (ado 2) ftrial_51)))) (Wr := (wX6 G ad ado f ++ (wX0 G (ado 1) fnow))) [15, 16, 17, 18, 19, 20, 21, 22, 23, 24, 25] [0, 1, 2, 3, 4, 5, 6, 7, 8, 9, 10, 11, 12, 13, 14] rfl rfl rfl rfl rfl rfl (va_runVN (As := [.int x5]) (rest := []) hC (c_X0_tryPlanned l G (ado 2) ftrial_ x5 r51 ftrial_51 hc51 _) ⟨va_cnB 1 hts gX6_runs_X0_tryPlanned_n197 rfl rfl rfl (hE.2.2 (RX6, 197, yX0_tryPlanned, "FeatherShares") (List.mem_of_getElem? (i := 22) rfl)) (hts (.initialized RX0) (by decide +kernel)) (by decide +kernel) ⟨Nat.le_of_ble_eq_true rfl, Nat.le_of_ble_eq_true rfl⟩, hts (.instanceMethod yX0_tryPlanned) (by decide +kernel), hts (.selects RX0 yX0_tryPlanned yX0_tryPlanned) (by decide +kernel)⟩ ⟨Pc0_blind, va_recv hT hP (q0 := 15) (ci := 0) rfl rfl, fun U hU hW => Pc0_at (Wd := (wX0 G (ado 2) ftrial_)) hE (hP.subm [15, 16, 17, 18, 19, 20, 21, 22, 23, 24, 25] rfl) (hD.sub [15, 16, 17, 18, 19, 20, 21, 22, 23, 24, 25] (by decide) rfl) hU hW⟩ rfl rfl hl.1 rfl (lv_room (Nat.le_of_ble_eq_true rfl)) dX6_runs_51 ⟨Nat.zero_le _, Nat.zero_le _⟩) hS hA hP hD (fun H locs hn51 hP hD hS => ?_)
        refine lv_if_eq (tgt := 77) hx hb dX6_runs_54 (by decide) (fun hc => ?_) (fun hc => ?_)
        · have hf := if_t hf hc
          refine lv_iload_n hx hb dX6_runs_77 rfl (lv_at hl 3 rfl) ?_
          refine lv_bipush (v := (-4 : Int32)) hx hb dX6_runs_78 (bi_m4) ?_
          refine lv_icmp_ne (tgt := 86) hx hb dX6_runs_80 (by decide) (fun hc => ?_) (fun hc => ?_)
          · have hf := if_f hf hc
            refine lv_iinc (v := (x5 + nI 1)) (lv' := [(5, .int (x5 + nI 1)), (0, .ref (ad 0)), (1, .int x1), (2, .int x2), (3, .int x3), (4, .int x4)]) hx hb dX6_runs_86 hl (k := 5) rfl (ii_x 1 _) (by decide) rfl (fun ls hl => ?_)
            refine lv_goto (tgt := 33) hx hb dX6_runs_89 (by decide) ?_
            have hK9 := K_of hf hK
            have hK9 := hW33 _ hK9
            exact hK9 _ _ _ hP hD hS (lv_sub hl [1, 2, 3, 4, 5, 0] rfl)
          · have hf := if_t hf hc
            refine lv_iload hx hb dX6_runs_83 (lv_at hl 5 rfl) ?_
            refine lv_istore_n (lv' := [(3, .int x5), (0, .ref (ad 0)), (1, .int x1), (2, .int x2), (4, .int x4), (5, .int x5)]) hx hb dX6_runs_85 rfl hl (by decide) rfl (fun ls hl => ?_)
            refine lv_iinc (v := (x5 + nI 1)) (lv' := [(5, .int (x5 + nI 1)), (3, .int x5), (0, .ref (ad 0)), (1, .int x1), (2, .int x2), (4, .int x4)]) hx hb dX6_runs_86 hl (k := 5) rfl (ii_x 1 _) (by decide) rfl (fun ls hl => ?_)
            refine lv_goto (tgt := 33) hx hb dX6_runs_89 (by decide) ?_
            have hK9 := K_of hf hK
            have hK9 := hW33 _ hK9
            exact hK9 _ _ _ hP hD hS (lv_sub hl [2, 3, 4, 1, 5, 0] rfl)
        · have hf := if_f hf hc
          refine lv_iinc (v := (x2 + nI 1)) (lv' := [(2, .int (x2 + nI 1)), (0, .ref (ad 0)), (1, .int x1), (3, .int x3), (4, .int x4), (5, .int x5)]) hx hb dX6_runs_57 hl (k := 2) rfl (ii_x 1 _) (by decide) rfl (fun ls hl => ?_)
          refine lv_iload hx hb dX6_runs_60 (lv_at hl 4 rfl) ?_
          refine lv_aload_n hx hb dX6_runs_62 rfl (lv_at hl 1 rfl) ?_
          refine va_get (C := RX6) (T := TX6) (N := 11) (ci := 6) (v := .ref ((ado 2) 0)) hx hb hts inX6 hown hT hP 0 rfl rfl 1 (Nat.le_of_ble_eq_true rfl) lk16 (fun _ h => h) rfl dX6_runs_63 ?_
          refine lv_iload hx hb dX6_runs_66 (lv_at hl 5 rfl) ?_
          obtain ⟨r68, hc68, hf⟩ := bd_e hf
          refine cl_i_ro (Wd := (wX6 G ad ado f ++ (wX0 G (ado 1) fnow ++ (wX0 G (ado 2) ftrial_51)))) (Wc := (wX0 G (ado 2) ftrial_51)) [15, 16, 17, 18, 19, 20, 21, 22, 23, 24, 25] rfl (va_runVN (As := [.int x5]) (rest := [.int x4]) hC (c_X0_costOfPlanned l G (ado 2) ftrial_51 x5 r68 hc68 _) ⟨va_cnB 1 hts gX6_runs_X0_costOfPlanned_n200 rfl rfl rfl (hE.2.2 (RX6, 200, yX0_costOfPlanned, "FeatherShares") (List.mem_of_getElem? (i := 23) rfl)) (hts (.initialized RX0) (by decide +kernel)) (by decide +kernel) ⟨Nat.le_of_ble_eq_true rfl, Nat.le_of_ble_eq_true rfl⟩, hts (.instanceMethod yX0_costOfPlanned) (by decide +kernel), hts (.selects RX0 yX0_costOfPlanned yX0_costOfPlanned) (by decide +kernel)⟩ ⟨Pc0_blind, va_recv hT hP (q0 := 15) (ci := 0) rfl rfl, fun U hU hW => Pc0_at (Wd := (wX0 G (ado 2) ftrial_51)) hE (hP.subm [15, 16, 17, 18, 19, 20, 21, 22, 23, 24, 25] rfl) (hD.sub [15, 16, 17, 18, 19, 20, 21, 22, 23, 24, 25] (by decide) rfl) hU hW⟩ rfl rfl hl.1 rfl (lv_room (Nat.le_of_ble_eq_true rfl)) dX6_runs_68 ⟨Nat.zero_le _, Nat.zero_le _⟩) hS hA hP hD (fun H locs hP hD hS => ?_)
          refine lv_iadd hx hb dX6_runs_71 ?_
          refine lv_istore (lv' := [(4, .int (x4 + r68)), (2, .int (x2 + nI 1)), (0, .ref (ad 0)), (1, .int x1), (3, .int x3), (5, .int x5)]) hx hb dX6_runs_72 hl (by decide) rfl (fun ls hl => ?_)
          refine lv_goto (tgt := 86) hx hb dX6_runs_74 (by decide) ?_
          refine lv_iinc (v := (x5 + nI 1)) (lv' := [(5, .int (x5 + nI 1)), (4, .int (x4 + r68)), (2, .int (x2 + nI 1)), (0, .ref (ad 0)), (1, .int x1), (3, .int x3)]) hx hb dX6_runs_86 hl (k := 5) rfl (ii_x 1 _) (by decide) rfl (fun ls hl => ?_)
          refine lv_goto (tgt := 33) hx hb dX6_runs_89 (by decide) ?_
          have hK9 := K_of hf hK
          have hK9 := hW33 _ hK9
          exact hK9 _ _ _ hP hD hS (lv_sub hl [3, 4, 2, 5, 1, 0] rfl)
    · try dsimp only at hf
      show ∀ (H : Heap) (locs : List Loc) (ls : Array Slot), va_P G.1 vwCl (wX6 G ad ado f ++ (wX0 G (ado 1) fnow ++ (wX0 G (ado 2) ftrial_33))) H → va_D A (wX6 G ad ado f ++ (wX0 G (ado 1) fnow ++ (wX0 G (ado 2) ftrial_33))) → va_S A s.heap H locs → lv_has ls 6 [(1, .int x1), (2, .int y2_33), (3, .int y3_33), (4, .int y4_33)] → W p l e ({ frames := 6, cells := 0, slots := 0, locals := 128 }) s m args below meth c H locs 0 0 Q (F0 m 92 ls [])
      intro H locs ls hP hD hS hl
      refine lv_iload_n hx hb dX6_runs_92 rfl (lv_at hl 0 rfl) ?_
      refine lv_if_ne (tgt := 100) hx hb dX6_runs_93 (by decide) (fun hc => ?_) (fun hc => ?_)
      · have hf := if_f hf hc
        refine lv_iload_n hx hb dX6_runs_100 rfl (lv_at hl 0 rfl) ?_
        refine lv_iconst (v := (nI 1)) hx hb dX6_runs_101 (ic_1) ?_
        refine lv_icmp_ne (tgt := 109) hx hb dX6_runs_102 (by decide) (fun hc => ?_) (fun hc => ?_)
        · have hf := if_f hf hc
          refine lv_iload hx hb dX6_runs_109 (lv_at hl 3 rfl) ?_
          have hK9 := K0_of hf hK
          exact hRet y4_33 ftrial_33 _ _ _ _ hK9 dX6_runs_111 hP hD hS
        · have hf := if_t hf hc
          refine lv_iload_n hx hb dX6_runs_105 rfl (lv_at hl 2 rfl) ?_
          refine lv_goto (tgt := 111) hx hb dX6_runs_106 (by decide) ?_
          have hK9 := K0_of hf hK
          exact hRet y3_33 ftrial_33 _ _ _ _ hK9 dX6_runs_111 hP hD hS
      · have hf := if_t hf hc
        refine lv_iload_n hx hb dX6_runs_96 rfl (lv_at hl 1 rfl) ?_
        refine lv_goto (tgt := 111) hx hb dX6_runs_97 (by decide) ?_
        have hK9 := K0_of hf hK
        exact hRet y2_33 ftrial_33 _ _ _ _ hK9 dX6_runs_111 hP hD hS
  · have hf := if_t hf hc
    refine lv_iconst (v := (-1 : Int32)) hx hb dX6_runs_9 (ic_m1) ?_
    have hK9 := K0_of hf hK
    exact hRet (-1 : Int32) ftrial _ _ _ _ hK9 dX6_runs_10 hP hD hS
noncomputable def p_X6_ahead (f : Mem) (fnow : Mem) (ftrial : Mem) (x1 : Int32) (x2 : Int32) : Option (Int32 × Mem) :=
  Option.bind (p_X6_isOwner x1) <| fun r1 =>
  if r1 = 0 then
    (some ((-1 : Int32), ftrial))
  else
    (Option.bind (p_X0_copyFrom ftrial fnow) <| fun ftrial_17 =>
     Option.bind (p_X0_followPlanWithout ftrial_17 (-4 : Int32)) <| fun ftrial_26 =>
     Option.bind (p_X0_ofOwner ftrial_26 x1 x2) <| fun r35 =>
     some (r35, ftrial_26))
set_option maxHeartbeats 4000000 in
set_option maxRecDepth 100000 in
theorem c_X6_ahead (l : Launch) (G : Gt) (ad : Nat → Nat) (ado : Nat → Nat → Nat) (f : Mem) (fnow : Mem) (ftrial : Mem) (x1 : Int32) (x2 : Int32) (r : Int32) (ftrialz : Mem) (hf : p_X6_ahead f fnow ftrial x1 x2 = some (r, ftrialz)) (sz : Nat) : Met l yX6_ahead wsX6_ahead ({ frames := 7, cells := 0, slots := 0, locals := 150 }) (Pc0 G sz [.ref (ad 0), .int x1, .int x2] (wX6 G ad ado f ++ (wX0 G (ado 1) fnow ++ (wX0 G (ado 2) ftrial)))) (Qi0 G (va_A (wX6 G ad ado f ++ (wX0 G (ado 1) fnow ++ (wX0 G (ado 2) ftrial))) sz) r (wX6 G ad ado f ++ (wX0 G (ado 1) fnow ++ (wX0 G (ado 2) ftrialz)))) 0 0 (va_A (wX6 G ad ado f ++ (wX0 G (ado 1) fnow ++ (wX0 G (ado 2) ftrial))) sz) := by
  refine metP (Qf := fun A => Qi0 G A r (wX6 G ad ado f ++ (wX0 G (ado 1) fnow ++ (wX0 G (ado 2) ftrialz)))) cX6_ahead 3 (some .int) (by decide) rfl (Nat.le_of_ble_eq_true rfl) ?_
  intro p e s m below meth c A ls hC hr hlocks hin hE hA hsz hP hD hS hl
  generalize hargs : ([.ref (ad 0), .int x1, .int x2] : List Value).toArray = args at hC ⊢
  obtain ⟨hx, hb, hml, hown, hts⟩ := id hC
  have hT : va_K G.1 vwCl (tyL G) s := hE.1
  have hRet : ∀ (r9 : Int32) (ftrial9 : Mem) (H : Heap) (locs : List Loc) (ls : Array Slot) (pc : Nat) (hK9 : (r9, ftrial9) = (r, ftrialz)) (hdg : decode cX6_ahead pc = .ok (.ireturn, 1)), va_P G.1 vwCl (wX6 G ad ado f ++ (wX0 G (ado 1) fnow ++ (wX0 G (ado 2) ftrial9))) H → va_D A (wX6 G ad ado f ++ (wX0 G (ado 1) fnow ++ (wX0 G (ado 2) ftrial9))) → va_S A s.heap H locs → W p l e ({ frames := 7, cells := 0, slots := 0, locals := 150 }) s m args below meth c H locs 0 0 (MQ below (Qi0 G A r (wX6 G ad ado f ++ (wX0 G (ado 1) fnow ++ (wX0 G (ado 2) ftrialz)))) args s 0 0 A) (F0 m pc ls [.int r9]) := by
    intro r9 ftrial9 H locs ls pc hK9 hdg hP hD hS
    cases hK9
    exact W.iret hx hb hr (fun t ht hW => ⟨⟨r, (), rfl, rfl, by rw [ht]; exact hP, hD⟩, hS.F ht⟩) hS.2.2 hdg hlocks
  generalize MQ below (Qi0 G A r (wX6 G ad ado f ++ (wX0 G (ado 1) fnow ++ (wX0 G (ado 2) ftrialz)))) args s 0 0 A = Q at hRet ⊢
  have lk16 := hts (.fieldLink RX6 16 "FeatherShares" "trial" "LFeatherShares$Flock;") (by decide +kernel)
  have inX6 : ∀ w ∈ u_ws RX6 TX6 11, w ∈ wsX6_ahead := by decide +kernel
  have lk12 := hts (.fieldLink RX6 12 "FeatherShares" "now" "LFeatherShares$Flock;") (by decide +kernel)
  have hl : lv_has ls 3 [(0, .ref (ad 0)), (1, .int x1), (2, .int x2)] := hl
  have hK0 : (r, ftrialz) = (r, ftrialz) := rfl
  obtain ⟨res, hres, hK⟩ : ∃ res, p_X6_ahead f fnow ftrial x1 x2 = some res ∧ res = (r, ftrialz) := ⟨_, hf, rfl⟩
  clear hf
  have hf := hres
  clear hres
  unfold p_X6_ahead at hf
  refine lv_iload_n hx hb dX6_ahead_0 rfl (lv_at hl 1 rfl) ?_
  obtain ⟨r1, hc1, hf⟩ := bd_e hf
  refine cl_z_ro (Wd := (wX6 G ad ado f ++ (wX0 G (ado 1) fnow ++ (wX0 G (ado 2) ftrial)))) (Wc := ([] : va_W)) [] rfl (va_runS (As := [.int x1]) (rest := []) hC (c_X6_isOwner l G x1 r1 hc1 _) (va_cwS 1 hts gX6_ahead_X6_isOwner rfl rfl rfl (by decide +kernel) ⟨Nat.le_of_ble_eq_true rfl, Nat.le_of_ble_eq_true rfl⟩) ⟨Pc0_blind, fun U hU hW => Pc0_at (Wd := ([] : va_W)) hE (hP.subm [] rfl) (hD.sub [] (by decide) rfl) hU hW⟩ rfl rfl hl.1 rfl (lv_room (Nat.le_of_ble_eq_true rfl)) dX6_ahead_1 ⟨Nat.zero_le _, Nat.zero_le _⟩) hS hA hP hD (fun H locs hn1 hP hD hS => ?_)
  refine lv_if_ne (tgt := 9) hx hb dX6_ahead_4 (by decide) (fun hc => ?_) (fun hc => ?_)
  · have hf := if_f hf hc
    refine lv_aload_n hx hb dX6_ahead_9 rfl (lv_at hl 0 rfl) ?_
    refine va_get (C := RX6) (T := TX6) (N := 11) (ci := 6) (v := .ref ((ado 2) 0)) hx hb hts inX6 hown hT hP 0 rfl rfl 1 (Nat.le_of_ble_eq_true rfl) lk16 (fun _ h => h) rfl dX6_ahead_10 ?_
    refine lv_aload_n hx hb dX6_ahead_13 rfl (lv_at hl 0 rfl) ?_
    refine va_get (C := RX6) (T := TX6) (N := 11) (ci := 6) (v := .ref ((ado 1) 0)) hx hb hts inX6 hown hT hP 0 rfl rfl 0 (Nat.le_of_ble_eq_true rfl) lk12 (fun _ h => h) rfl dX6_ahead_14 ?_
    obtain ⟨ftrial_17, hc17, hf⟩ := bd_e hf
    refine cl_v_up (Wd := (wX6 G ad ado f ++ (wX0 G (ado 1) fnow ++ (wX0 G (ado 2) ftrial)))) (Wc := (wX0 G (ado 2) ftrial ++ (wX0 G (ado 1) fnow))) (W' := (wX0 G (ado 2) ftrial_17 ++ (wX0 G (ado 1) fnow))) (W2 := (wX6 G ad ado f ++ (wX0 G (ado 1) fnow ++ (wX0 G (ado 2) ftrial_17)))) (Wr := (wX6 G ad ado f)) [15, 16, 17, 18, 19, 20, 21, 22, 23, 24, 25, 4, 5, 6, 7, 8, 9, 10, 11, 12, 13, 14] [0, 1, 2, 3] rfl rfl rfl rfl rfl rfl (va_runVN (As := [.ref ((ado 1) 0)]) (rest := []) hC (c_X0_copyFrom l G (ado 2) (ado 1) ftrial fnow ftrial_17 hc17 _) ⟨va_cnB 1 hts gX6_ahead_X0_copyFrom_n93 rfl rfl rfl (hE.2.2 (RX6, 93, yX0_copyFrom, "FeatherShares") (List.mem_of_getElem? (i := 8) rfl)) (hts (.initialized RX0) (by decide +kernel)) (by decide +kernel) ⟨Nat.le_of_ble_eq_true rfl, Nat.le_of_ble_eq_true rfl⟩, hts (.instanceMethod yX0_copyFrom) (by decide +kernel), hts (.selects RX0 yX0_copyFrom yX0_copyFrom) (by decide +kernel)⟩ ⟨Pc0_blind, va_recv hT hP (q0 := 15) (ci := 0) rfl rfl, fun U hU hW => Pc0_at (Wd := (wX0 G (ado 2) ftrial ++ (wX0 G (ado 1) fnow))) hE (hP.subm [15, 16, 17, 18, 19, 20, 21, 22, 23, 24, 25, 4, 5, 6, 7, 8, 9, 10, 11, 12, 13, 14] rfl) (hD.sub [15, 16, 17, 18, 19, 20, 21, 22, 23, 24, 25, 4, 5, 6, 7, 8, 9, 10, 11, 12, 13, 14] (by decide) rfl) hU hW⟩ rfl rfl hl.1 rfl (lv_room (Nat.le_of_ble_eq_true rfl)) dX6_ahead_17 ⟨Nat.zero_le _, Nat.zero_le _⟩) hS hA hP hD (fun H locs hP hD hS => ?_)
    refine lv_aload_n hx hb dX6_ahead_20 rfl (lv_at hl 0 rfl) ?_
    refine va_get (C := RX6) (T := TX6) (N := 11) (ci := 6) (v := .ref ((ado 2) 0)) hx hb hts inX6 hown hT hP 0 rfl rfl 1 (Nat.le_of_ble_eq_true rfl) lk16 (fun _ h => h) rfl dX6_ahead_21 ?_
    refine lv_bipush (v := (-4 : Int32)) hx hb dX6_ahead_24 (bi_m4) ?_
    obtain ⟨ftrial_26, hc26, hf⟩ := bd_e hf
    refine cl_v_up (Wd := (wX6 G ad ado f ++ (wX0 G (ado 1) fnow ++ (wX0 G (ado 2) ftrial_17)))) (Wc := (wX0 G (ado 2) ftrial_17)) (W' := (wX0 G (ado 2) ftrial_26)) (W2 := (wX6 G ad ado f ++ (wX0 G (ado 1) fnow ++ (wX0 G (ado 2) ftrial_26)))) (Wr := (wX6 G ad ado f ++ (wX0 G (ado 1) fnow))) [15, 16, 17, 18, 19, 20, 21, 22, 23, 24, 25] [0, 1, 2, 3, 4, 5, 6, 7, 8, 9, 10, 11, 12, 13, 14] rfl rfl rfl rfl rfl rfl (va_runVN (As := [.int (-4 : Int32)]) (rest := []) hC (c_X0_followPlanWithout l G (ado 2) ftrial_17 (-4 : Int32) ftrial_26 hc26 _) ⟨va_cnB 1 hts gX6_ahead_X0_followPlanWithout_n203 rfl rfl rfl (hE.2.2 (RX6, 203, yX0_followPlanWithout, "FeatherShares") (List.mem_of_getElem? (i := 24) rfl)) (hts (.initialized RX0) (by decide +kernel)) (by decide +kernel) ⟨Nat.le_of_ble_eq_true rfl, Nat.le_of_ble_eq_true rfl⟩, hts (.instanceMethod yX0_followPlanWithout) (by decide +kernel), hts (.selects RX0 yX0_followPlanWithout yX0_followPlanWithout) (by decide +kernel)⟩ ⟨Pc0_blind, va_recv hT hP (q0 := 15) (ci := 0) rfl rfl, fun U hU hW => Pc0_at (Wd := (wX0 G (ado 2) ftrial_17)) hE (hP.subm [15, 16, 17, 18, 19, 20, 21, 22, 23, 24, 25] rfl) (hD.sub [15, 16, 17, 18, 19, 20, 21, 22, 23, 24, 25] (by decide) rfl) hU hW⟩ rfl rfl hl.1 rfl (lv_room (Nat.le_of_ble_eq_true rfl)) dX6_ahead_26 ⟨Nat.zero_le _, Nat.zero_le _⟩) hS hA hP hD (fun H locs hP hD hS => ?_)
    refine lv_aload_n hx hb dX6_ahead_29 rfl (lv_at hl 0 rfl) ?_
    refine va_get (C := RX6) (T := TX6) (N := 11) (ci := 6) (v := .ref ((ado 2) 0)) hx hb hts inX6 hown hT hP 0 rfl rfl 1 (Nat.le_of_ble_eq_true rfl) lk16 (fun _ h => h) rfl dX6_ahead_30 ?_
    refine lv_iload_n hx hb dX6_ahead_33 rfl (lv_at hl 1 rfl) ?_
    refine lv_iload_n hx hb dX6_ahead_34 rfl (lv_at hl 2 rfl) ?_
    obtain ⟨r35, hc35, hf⟩ := bd_e hf
    refine cl_i_ro (Wd := (wX6 G ad ado f ++ (wX0 G (ado 1) fnow ++ (wX0 G (ado 2) ftrial_26)))) (Wc := (wX0 G (ado 2) ftrial_26)) [15, 16, 17, 18, 19, 20, 21, 22, 23, 24, 25] rfl (va_runVN (As := [.int x1, .int x2]) (rest := []) hC (c_X0_ofOwner l G (ado 2) ftrial_26 x1 x2 r35 hc35 _) ⟨va_cnB 2 hts gX6_ahead_X0_ofOwner_n148 rfl rfl rfl (hE.2.2 (RX6, 148, yX0_ofOwner, "FeatherShares") (List.mem_of_getElem? (i := 13) rfl)) (hts (.initialized RX0) (by decide +kernel)) (by decide +kernel) ⟨Nat.le_of_ble_eq_true rfl, Nat.le_of_ble_eq_true rfl⟩, hts (.instanceMethod yX0_ofOwner) (by decide +kernel), hts (.selects RX0 yX0_ofOwner yX0_ofOwner) (by decide +kernel)⟩ ⟨Pc0_blind, va_recv hT hP (q0 := 15) (ci := 0) rfl rfl, fun U hU hW => Pc0_at (Wd := (wX0 G (ado 2) ftrial_26)) hE (hP.subm [15, 16, 17, 18, 19, 20, 21, 22, 23, 24, 25] rfl) (hD.sub [15, 16, 17, 18, 19, 20, 21, 22, 23, 24, 25] (by decide) rfl) hU hW⟩ rfl rfl hl.1 rfl (lv_room (Nat.le_of_ble_eq_true rfl)) dX6_ahead_35 ⟨Nat.zero_le _, Nat.zero_le _⟩) hS hA hP hD (fun H locs hP hD hS => ?_)
    have hK9 := K0_of hf hK
    exact hRet r35 ftrial_26 _ _ _ _ hK9 dX6_ahead_38 hP hD hS
  · have hf := if_t hf hc
    refine lv_iconst (v := (-1 : Int32)) hx hb dX6_ahead_7 (ic_m1) ?_
    have hK9 := K0_of hf hK
    exact hRet (-1 : Int32) ftrial _ _ _ _ hK9 dX6_ahead_8 hP hD hS
noncomputable def p_X6_later (f : Mem) (fnow : Mem) (ftrial : Mem) (x1 : Int32) (x2 : Int32) (x3 : Int32) : Option (Int32 × Mem) :=
  Option.bind (p_X0_hasGoose fnow x1) <| fun r5 =>
  if r5 = 0 then
    (some ((-1 : Int32), ftrial))
  else
    (Option.bind (p_X6_isOwner x2) <| fun r12 =>
     if r12 = 0 then
       (some ((-1 : Int32), ftrial))
     else
       (Option.bind (p_X6_isWithin x3 (nI 0) (nI 60)) <| fun r22 =>
        if r22 = 0 then
          (some ((-1 : Int32), ftrial))
        else
          (Option.bind (p_X0_copyFrom ftrial fnow) <| fun ftrial_38 =>
           Option.bind (p_X0_passWeeks ftrial_38 x3) <| fun (r46, ftrial_46) =>
           Option.bind (p_X0_held ftrial_46 x1 x2) <| fun r56 =>
           some (r56, ftrial_46))))
set_option maxHeartbeats 4000000 in
set_option maxRecDepth 100000 in
theorem c_X6_later (l : Launch) (G : Gt) (ad : Nat → Nat) (ado : Nat → Nat → Nat) (f : Mem) (fnow : Mem) (ftrial : Mem) (x1 : Int32) (x2 : Int32) (x3 : Int32) (r : Int32) (ftrialz : Mem) (hf : p_X6_later f fnow ftrial x1 x2 x3 = some (r, ftrialz)) (sz : Nat) : Met l yX6_later wsX6_later ({ frames := 5, cells := 0, slots := 0, locals := 133 }) (Pc0 G sz [.ref (ad 0), .int x1, .int x2, .int x3] (wX6 G ad ado f ++ (wX0 G (ado 1) fnow ++ (wX0 G (ado 2) ftrial)))) (Qi0 G (va_A (wX6 G ad ado f ++ (wX0 G (ado 1) fnow ++ (wX0 G (ado 2) ftrial))) sz) r (wX6 G ad ado f ++ (wX0 G (ado 1) fnow ++ (wX0 G (ado 2) ftrialz)))) 0 0 (va_A (wX6 G ad ado f ++ (wX0 G (ado 1) fnow ++ (wX0 G (ado 2) ftrial))) sz) := by
  refine metP (Qf := fun A => Qi0 G A r (wX6 G ad ado f ++ (wX0 G (ado 1) fnow ++ (wX0 G (ado 2) ftrialz)))) cX6_later 4 (some .int) (by decide) rfl (Nat.le_of_ble_eq_true rfl) ?_
  intro p e s m below meth c A ls hC hr hlocks hin hE hA hsz hP hD hS hl
  generalize hargs : ([.ref (ad 0), .int x1, .int x2, .int x3] : List Value).toArray = args at hC ⊢
  obtain ⟨hx, hb, hml, hown, hts⟩ := id hC
  have hT : va_K G.1 vwCl (tyL G) s := hE.1
  have hRet : ∀ (r9 : Int32) (ftrial9 : Mem) (H : Heap) (locs : List Loc) (ls : Array Slot) (pc : Nat) (hK9 : (r9, ftrial9) = (r, ftrialz)) (hdg : decode cX6_later pc = .ok (.ireturn, 1)), va_P G.1 vwCl (wX6 G ad ado f ++ (wX0 G (ado 1) fnow ++ (wX0 G (ado 2) ftrial9))) H → va_D A (wX6 G ad ado f ++ (wX0 G (ado 1) fnow ++ (wX0 G (ado 2) ftrial9))) → va_S A s.heap H locs → W p l e ({ frames := 5, cells := 0, slots := 0, locals := 133 }) s m args below meth c H locs 0 0 (MQ below (Qi0 G A r (wX6 G ad ado f ++ (wX0 G (ado 1) fnow ++ (wX0 G (ado 2) ftrialz)))) args s 0 0 A) (F0 m pc ls [.int r9]) := by
    intro r9 ftrial9 H locs ls pc hK9 hdg hP hD hS
    cases hK9
    exact W.iret hx hb hr (fun t ht hW => ⟨⟨r, (), rfl, rfl, by rw [ht]; exact hP, hD⟩, hS.F ht⟩) hS.2.2 hdg hlocks
  generalize MQ below (Qi0 G A r (wX6 G ad ado f ++ (wX0 G (ado 1) fnow ++ (wX0 G (ado 2) ftrialz)))) args s 0 0 A = Q at hRet ⊢
  have lk12 := hts (.fieldLink RX6 12 "FeatherShares" "now" "LFeatherShares$Flock;") (by decide +kernel)
  have inX6 : ∀ w ∈ u_ws RX6 TX6 11, w ∈ wsX6_later := by decide +kernel
  have lk16 := hts (.fieldLink RX6 16 "FeatherShares" "trial" "LFeatherShares$Flock;") (by decide +kernel)
  have hl : lv_has ls 4 [(0, .ref (ad 0)), (1, .int x1), (2, .int x2), (3, .int x3)] := hl
  have hK0 : (r, ftrialz) = (r, ftrialz) := rfl
  obtain ⟨res, hres, hK⟩ : ∃ res, p_X6_later f fnow ftrial x1 x2 x3 = some res ∧ res = (r, ftrialz) := ⟨_, hf, rfl⟩
  clear hf
  have hf := hres
  clear hres
  unfold p_X6_later at hf
  refine lv_aload_n hx hb dX6_later_0 rfl (lv_at hl 0 rfl) ?_
  refine va_get (C := RX6) (T := TX6) (N := 11) (ci := 6) (v := .ref ((ado 1) 0)) hx hb hts inX6 hown hT hP 0 rfl rfl 0 (Nat.le_of_ble_eq_true rfl) lk12 (fun _ h => h) rfl dX6_later_1 ?_
  refine lv_iload_n hx hb dX6_later_4 rfl (lv_at hl 1 rfl) ?_
  obtain ⟨r5, hc5, hf⟩ := bd_e hf
  refine cl_z_ro (Wd := (wX6 G ad ado f ++ (wX0 G (ado 1) fnow ++ (wX0 G (ado 2) ftrial)))) (Wc := (wX0 G (ado 1) fnow)) [4, 5, 6, 7, 8, 9, 10, 11, 12, 13, 14] rfl (va_runVN (As := [.int x1]) (rest := []) hC (c_X0_hasGoose l G (ado 1) fnow x1 r5 hc5 _) ⟨va_cnB 1 hts gX6_later_X0_hasGoose_n126 rfl rfl rfl (hE.2.2 (RX6, 126, yX0_hasGoose, "FeatherShares") (List.mem_of_getElem? (i := 10) rfl)) (hts (.initialized RX0) (by decide +kernel)) (by decide +kernel) ⟨Nat.le_of_ble_eq_true rfl, Nat.le_of_ble_eq_true rfl⟩, hts (.instanceMethod yX0_hasGoose) (by decide +kernel), hts (.selects RX0 yX0_hasGoose yX0_hasGoose) (by decide +kernel)⟩ ⟨Pc0_blind, va_recv hT hP (q0 := 4) (ci := 0) rfl rfl, fun U hU hW => Pc0_at (Wd := (wX0 G (ado 1) fnow)) hE (hP.subm [4, 5, 6, 7, 8, 9, 10, 11, 12, 13, 14] rfl) (hD.sub [4, 5, 6, 7, 8, 9, 10, 11, 12, 13, 14] (by decide) rfl) hU hW⟩ rfl rfl hl.1 rfl (lv_room (Nat.le_of_ble_eq_true rfl)) dX6_later_5 ⟨Nat.zero_le _, Nat.zero_le _⟩) hS hA hP hD (fun H locs hn5 hP hD hS => ?_)
  refine lv_if_eq (tgt := 28) hx hb dX6_later_8 (by decide) (fun hc => ?_) (fun hc => ?_)
  · have hf := if_t hf hc
    refine lv_iconst (v := (-1 : Int32)) hx hb dX6_later_28 (ic_m1) ?_
    have hK9 := K0_of hf hK
    exact hRet (-1 : Int32) ftrial _ _ _ _ hK9 dX6_later_29 hP hD hS
  · have hf := if_f hf hc
    refine lv_iload_n hx hb dX6_later_11 rfl (lv_at hl 2 rfl) ?_
    obtain ⟨r12, hc12, hf⟩ := bd_e hf
    refine cl_z_ro (Wd := (wX6 G ad ado f ++ (wX0 G (ado 1) fnow ++ (wX0 G (ado 2) ftrial)))) (Wc := ([] : va_W)) [] rfl (va_runS (As := [.int x2]) (rest := []) hC (c_X6_isOwner l G x2 r12 hc12 _) (va_cwS 1 hts gX6_later_X6_isOwner rfl rfl rfl (by decide +kernel) ⟨Nat.le_of_ble_eq_true rfl, Nat.le_of_ble_eq_true rfl⟩) ⟨Pc0_blind, fun U hU hW => Pc0_at (Wd := ([] : va_W)) hE (hP.subm [] rfl) (hD.sub [] (by decide) rfl) hU hW⟩ rfl rfl hl.1 rfl (lv_room (Nat.le_of_ble_eq_true rfl)) dX6_later_12 ⟨Nat.zero_le _, Nat.zero_le _⟩) hS hA hP hD (fun H locs hn12 hP hD hS => ?_)
    refine lv_if_eq (tgt := 28) hx hb dX6_later_15 (by decide) (fun hc => ?_) (fun hc => ?_)
    · have hf := if_t hf hc
      refine lv_iconst (v := (-1 : Int32)) hx hb dX6_later_28 (ic_m1) ?_
      have hK9 := K0_of hf hK
      exact hRet (-1 : Int32) ftrial _ _ _ _ hK9 dX6_later_29 hP hD hS
    · have hf := if_f hf hc
      refine lv_iload_n hx hb dX6_later_18 rfl (lv_at hl 3 rfl) ?_
      refine lv_iconst (v := (nI 0)) hx hb dX6_later_19 (ic_0) ?_
      refine lv_bipush (v := (nI 60)) hx hb dX6_later_20 (bi_60) ?_
      obtain ⟨r22, hc22, hf⟩ := bd_e hf
      refine cl_z_ro (Wd := (wX6 G ad ado f ++ (wX0 G (ado 1) fnow ++ (wX0 G (ado 2) ftrial)))) (Wc := ([] : va_W)) [] rfl (va_runS (As := [.int x3, .int (nI 0), .int (nI 60)]) (rest := []) hC (c_X6_isWithin l G x3 (nI 0) (nI 60) r22 hc22 _) (va_cwS 3 hts gX6_later_X6_isWithin rfl rfl rfl (by decide +kernel) ⟨Nat.le_of_ble_eq_true rfl, Nat.le_of_ble_eq_true rfl⟩) ⟨Pc0_blind, fun U hU hW => Pc0_at (Wd := ([] : va_W)) hE (hP.subm [] rfl) (hD.sub [] (by decide) rfl) hU hW⟩ rfl rfl hl.1 rfl (lv_room (Nat.le_of_ble_eq_true rfl)) dX6_later_22 ⟨Nat.zero_le _, Nat.zero_le _⟩) hS hA hP hD (fun H locs hn22 hP hD hS => ?_)
      refine lv_if_ne (tgt := 30) hx hb dX6_later_25 (by decide) (fun hc => ?_) (fun hc => ?_)
      · have hf := if_f hf hc
        refine lv_aload_n hx hb dX6_later_30 rfl (lv_at hl 0 rfl) ?_
        refine va_get (C := RX6) (T := TX6) (N := 11) (ci := 6) (v := .ref ((ado 2) 0)) hx hb hts inX6 hown hT hP 0 rfl rfl 1 (Nat.le_of_ble_eq_true rfl) lk16 (fun _ h => h) rfl dX6_later_31 ?_
        refine lv_aload_n hx hb dX6_later_34 rfl (lv_at hl 0 rfl) ?_
        refine va_get (C := RX6) (T := TX6) (N := 11) (ci := 6) (v := .ref ((ado 1) 0)) hx hb hts inX6 hown hT hP 0 rfl rfl 0 (Nat.le_of_ble_eq_true rfl) lk12 (fun _ h => h) rfl dX6_later_35 ?_
        obtain ⟨ftrial_38, hc38, hf⟩ := bd_e hf
        refine cl_v_up (Wd := (wX6 G ad ado f ++ (wX0 G (ado 1) fnow ++ (wX0 G (ado 2) ftrial)))) (Wc := (wX0 G (ado 2) ftrial ++ (wX0 G (ado 1) fnow))) (W' := (wX0 G (ado 2) ftrial_38 ++ (wX0 G (ado 1) fnow))) (W2 := (wX6 G ad ado f ++ (wX0 G (ado 1) fnow ++ (wX0 G (ado 2) ftrial_38)))) (Wr := (wX6 G ad ado f)) [15, 16, 17, 18, 19, 20, 21, 22, 23, 24, 25, 4, 5, 6, 7, 8, 9, 10, 11, 12, 13, 14] [0, 1, 2, 3] rfl rfl rfl rfl rfl rfl (va_runVN (As := [.ref ((ado 1) 0)]) (rest := []) hC (c_X0_copyFrom l G (ado 2) (ado 1) ftrial fnow ftrial_38 hc38 _) ⟨va_cnB 1 hts gX6_later_X0_copyFrom_n93 rfl rfl rfl (hE.2.2 (RX6, 93, yX0_copyFrom, "FeatherShares") (List.mem_of_getElem? (i := 8) rfl)) (hts (.initialized RX0) (by decide +kernel)) (by decide +kernel) ⟨Nat.le_of_ble_eq_true rfl, Nat.le_of_ble_eq_true rfl⟩, hts (.instanceMethod yX0_copyFrom) (by decide +kernel), hts (.selects RX0 yX0_copyFrom yX0_copyFrom) (by decide +kernel)⟩ ⟨Pc0_blind, va_recv hT hP (q0 := 15) (ci := 0) rfl rfl, fun U hU hW => Pc0_at (Wd := (wX0 G (ado 2) ftrial ++ (wX0 G (ado 1) fnow))) hE (hP.subm [15, 16, 17, 18, 19, 20, 21, 22, 23, 24, 25, 4, 5, 6, 7, 8, 9, 10, 11, 12, 13, 14] rfl) (hD.sub [15, 16, 17, 18, 19, 20, 21, 22, 23, 24, 25, 4, 5, 6, 7, 8, 9, 10, 11, 12, 13, 14] (by decide) rfl) hU hW⟩ rfl rfl hl.1 rfl (lv_room (Nat.le_of_ble_eq_true rfl)) dX6_later_38 ⟨Nat.zero_le _, Nat.zero_le _⟩) hS hA hP hD (fun H locs hP hD hS => ?_)
        refine lv_aload_n hx hb dX6_later_41 rfl (lv_at hl 0 rfl) ?_
        refine va_get (C := RX6) (T := TX6) (N := 11) (ci := 6) (v := .ref ((ado 2) 0)) hx hb hts inX6 hown hT hP 0 rfl rfl 1 (Nat.le_of_ble_eq_true rfl) lk16 (fun _ h => h) rfl dX6_later_42 ?_
        refine lv_iload_n hx hb dX6_later_45 rfl (lv_at hl 3 rfl) ?_
        obtain ⟨⟨r46, ftrial_46⟩, hc46, hf⟩ := bd_e hf
        try dsimp only at hf
        refine cl_i_up (Wd := (wX6 G ad ado f ++ (wX0 G (ado 1) fnow ++ (wX0 G (ado 2) ftrial_38)))) (Wc := (wX0 G (ado 2) ftrial_38)) (W' := (wX0 G (ado 2) ftrial_46)) (W2 := (wX6 G ad ado f ++ (wX0 G (ado 1) fnow ++ (wX0 G (ado 2) ftrial_46)))) (Wr := (wX6 G ad ado f ++ (wX0 G (ado 1) fnow))) [15, 16, 17, 18, 19, 20, 21, 22, 23, 24, 25] [0, 1, 2, 3, 4, 5, 6, 7, 8, 9, 10, 11, 12, 13, 14] rfl rfl rfl rfl rfl rfl (va_runVN (As := [.int x3]) (rest := []) hC (c_X0_passWeeks l G (ado 2) ftrial_38 x3 r46 ftrial_46 hc46 _) ⟨va_cnB 1 hts gX6_later_X0_passWeeks_n194 rfl rfl rfl (hE.2.2 (RX6, 194, yX0_passWeeks, "FeatherShares") (List.mem_of_getElem? (i := 21) rfl)) (hts (.initialized RX0) (by decide +kernel)) (by decide +kernel) ⟨Nat.le_of_ble_eq_true rfl, Nat.le_of_ble_eq_true rfl⟩, hts (.instanceMethod yX0_passWeeks) (by decide +kernel), hts (.selects RX0 yX0_passWeeks yX0_passWeeks) (by decide +kernel)⟩ ⟨Pc0_blind, va_recv hT hP (q0 := 15) (ci := 0) rfl rfl, fun U hU hW => Pc0_at (Wd := (wX0 G (ado 2) ftrial_38)) hE (hP.subm [15, 16, 17, 18, 19, 20, 21, 22, 23, 24, 25] rfl) (hD.sub [15, 16, 17, 18, 19, 20, 21, 22, 23, 24, 25] (by decide) rfl) hU hW⟩ rfl rfl hl.1 rfl (lv_room (Nat.le_of_ble_eq_true rfl)) dX6_later_46 ⟨Nat.zero_le _, Nat.zero_le _⟩) hS hA hP hD (fun H locs hP hD hS => ?_)
        refine lv_pop hx hb dX6_later_49 rfl ?_
        refine lv_aload_n hx hb dX6_later_50 rfl (lv_at hl 0 rfl) ?_
        refine va_get (C := RX6) (T := TX6) (N := 11) (ci := 6) (v := .ref ((ado 2) 0)) hx hb hts inX6 hown hT hP 0 rfl rfl 1 (Nat.le_of_ble_eq_true rfl) lk16 (fun _ h => h) rfl dX6_later_51 ?_
        refine lv_iload_n hx hb dX6_later_54 rfl (lv_at hl 1 rfl) ?_
        refine lv_iload_n hx hb dX6_later_55 rfl (lv_at hl 2 rfl) ?_
        obtain ⟨r56, hc56, hf⟩ := bd_e hf
        refine cl_i_ro (Wd := (wX6 G ad ado f ++ (wX0 G (ado 1) fnow ++ (wX0 G (ado 2) ftrial_46)))) (Wc := (wX0 G (ado 2) ftrial_46)) [15, 16, 17, 18, 19, 20, 21, 22, 23, 24, 25] rfl (va_runVN (As := [.int x1, .int x2]) (rest := []) hC (c_X0_held l G (ado 2) ftrial_46 x1 x2 r56 hc56 _) ⟨va_cnB 2 hts gX6_later_X0_held_n152 rfl rfl rfl (hE.2.2 (RX6, 152, yX0_held, "FeatherShares") (List.mem_of_getElem? (i := 14) rfl)) (hts (.initialized RX0) (by decide +kernel)) (by decide +kernel) ⟨Nat.le_of_ble_eq_true rfl, Nat.le_of_ble_eq_true rfl⟩, hts (.instanceMethod yX0_held) (by decide +kernel), hts (.selects RX0 yX0_held yX0_held) (by decide +kernel)⟩ ⟨Pc0_blind, va_recv hT hP (q0 := 15) (ci := 0) rfl rfl, fun U hU hW => Pc0_at (Wd := (wX0 G (ado 2) ftrial_46)) hE (hP.subm [15, 16, 17, 18, 19, 20, 21, 22, 23, 24, 25] rfl) (hD.sub [15, 16, 17, 18, 19, 20, 21, 22, 23, 24, 25] (by decide) rfl) hU hW⟩ rfl rfl hl.1 rfl (lv_room (Nat.le_of_ble_eq_true rfl)) dX6_later_56 ⟨Nat.zero_le _, Nat.zero_le _⟩) hS hA hP hD (fun H locs hP hD hS => ?_)
        have hK9 := K0_of hf hK
        exact hRet r56 ftrial_46 _ _ _ _ hK9 dX6_later_59 hP hD hS
      · have hf := if_t hf hc
        refine lv_iconst (v := (-1 : Int32)) hx hb dX6_later_28 (ic_m1) ?_
        have hK9 := K0_of hf hK
        exact hRet (-1 : Int32) ftrial _ _ _ _ hK9 dX6_later_29 hP hD hS
noncomputable def p_X6_eggs (f : Mem) (fnow : Mem) (ftrial : Mem) (x1 : Int32) (x2 : Int32) : Option (Int32 × Mem) :=
  Option.bind (p_X6_isOwner x1) <| fun r1 =>
  if r1 = 0 then
    (some ((-1 : Int32), ftrial))
  else
    (Option.bind (p_X6_isWithin x2 (nI 0) (nI 60)) <| fun r11 =>
     if r11 = 0 then
       (some ((-1 : Int32), ftrial))
     else
       (Option.bind (p_X0_copyFrom ftrial fnow) <| fun ftrial_27 =>
        Option.bind (p_X0_passWeeks ftrial_27 x2) <| fun (r35, ftrial_35) =>
        gd (inb x1 5) <|
        some ((ftrial_35 6 x1.toNatClampNeg), ftrial_35)))
set_option maxHeartbeats 4000000 in
set_option maxRecDepth 100000 in
theorem c_X6_eggs (l : Launch) (G : Gt) (ad : Nat → Nat) (ado : Nat → Nat → Nat) (f : Mem) (fnow : Mem) (ftrial : Mem) (x1 : Int32) (x2 : Int32) (r : Int32) (ftrialz : Mem) (hf : p_X6_eggs f fnow ftrial x1 x2 = some (r, ftrialz)) (sz : Nat) : Met l yX6_eggs wsX6_eggs ({ frames := 5, cells := 0, slots := 0, locals := 133 }) (Pc0 G sz [.ref (ad 0), .int x1, .int x2] (wX6 G ad ado f ++ (wX0 G (ado 1) fnow ++ (wX0 G (ado 2) ftrial)))) (Qi0 G (va_A (wX6 G ad ado f ++ (wX0 G (ado 1) fnow ++ (wX0 G (ado 2) ftrial))) sz) r (wX6 G ad ado f ++ (wX0 G (ado 1) fnow ++ (wX0 G (ado 2) ftrialz)))) 0 0 (va_A (wX6 G ad ado f ++ (wX0 G (ado 1) fnow ++ (wX0 G (ado 2) ftrial))) sz) := by
  refine metP (Qf := fun A => Qi0 G A r (wX6 G ad ado f ++ (wX0 G (ado 1) fnow ++ (wX0 G (ado 2) ftrialz)))) cX6_eggs 3 (some .int) (by decide) rfl (Nat.le_of_ble_eq_true rfl) ?_
  intro p e s m below meth c A ls hC hr hlocks hin hE hA hsz hP hD hS hl
  generalize hargs : ([.ref (ad 0), .int x1, .int x2] : List Value).toArray = args at hC ⊢
  obtain ⟨hx, hb, hml, hown, hts⟩ := id hC
  have hT : va_K G.1 vwCl (tyL G) s := hE.1
  have hRet : ∀ (r9 : Int32) (ftrial9 : Mem) (H : Heap) (locs : List Loc) (ls : Array Slot) (pc : Nat) (hK9 : (r9, ftrial9) = (r, ftrialz)) (hdg : decode cX6_eggs pc = .ok (.ireturn, 1)), va_P G.1 vwCl (wX6 G ad ado f ++ (wX0 G (ado 1) fnow ++ (wX0 G (ado 2) ftrial9))) H → va_D A (wX6 G ad ado f ++ (wX0 G (ado 1) fnow ++ (wX0 G (ado 2) ftrial9))) → va_S A s.heap H locs → W p l e ({ frames := 5, cells := 0, slots := 0, locals := 133 }) s m args below meth c H locs 0 0 (MQ below (Qi0 G A r (wX6 G ad ado f ++ (wX0 G (ado 1) fnow ++ (wX0 G (ado 2) ftrialz)))) args s 0 0 A) (F0 m pc ls [.int r9]) := by
    intro r9 ftrial9 H locs ls pc hK9 hdg hP hD hS
    cases hK9
    exact W.iret hx hb hr (fun t ht hW => ⟨⟨r, (), rfl, rfl, by rw [ht]; exact hP, hD⟩, hS.F ht⟩) hS.2.2 hdg hlocks
  generalize MQ below (Qi0 G A r (wX6 G ad ado f ++ (wX0 G (ado 1) fnow ++ (wX0 G (ado 2) ftrialz)))) args s 0 0 A = Q at hRet ⊢
  have lk16 := hts (.fieldLink RX6 16 "FeatherShares" "trial" "LFeatherShares$Flock;") (by decide +kernel)
  have inX6 : ∀ w ∈ u_ws RX6 TX6 11, w ∈ wsX6_eggs := by decide +kernel
  have lk12 := hts (.fieldLink RX6 12 "FeatherShares" "now" "LFeatherShares$Flock;") (by decide +kernel)
  have lk119 := va_Nw.use (A := args) rfl (hE.2.1 (RX6, 119, "FeatherShares$Flock", "eggsHad", "[I", "FeatherShares") (List.mem_of_getElem? (i := 10) rfl))
  have inX0 : ∀ w ∈ u_ws RX0 TX0 13, w ∈ wsX6_eggs := by decide +kernel
  have hl : lv_has ls 3 [(0, .ref (ad 0)), (1, .int x1), (2, .int x2)] := hl
  have hK0 : (r, ftrialz) = (r, ftrialz) := rfl
  obtain ⟨res, hres, hK⟩ : ∃ res, p_X6_eggs f fnow ftrial x1 x2 = some res ∧ res = (r, ftrialz) := ⟨_, hf, rfl⟩
  clear hf
  have hf := hres
  clear hres
  unfold p_X6_eggs at hf
  refine lv_iload_n hx hb dX6_eggs_0 rfl (lv_at hl 1 rfl) ?_
  obtain ⟨r1, hc1, hf⟩ := bd_e hf
  refine cl_z_ro (Wd := (wX6 G ad ado f ++ (wX0 G (ado 1) fnow ++ (wX0 G (ado 2) ftrial)))) (Wc := ([] : va_W)) [] rfl (va_runS (As := [.int x1]) (rest := []) hC (c_X6_isOwner l G x1 r1 hc1 _) (va_cwS 1 hts gX6_eggs_X6_isOwner rfl rfl rfl (by decide +kernel) ⟨Nat.le_of_ble_eq_true rfl, Nat.le_of_ble_eq_true rfl⟩) ⟨Pc0_blind, fun U hU hW => Pc0_at (Wd := ([] : va_W)) hE (hP.subm [] rfl) (hD.sub [] (by decide) rfl) hU hW⟩ rfl rfl hl.1 rfl (lv_room (Nat.le_of_ble_eq_true rfl)) dX6_eggs_1 ⟨Nat.zero_le _, Nat.zero_le _⟩) hS hA hP hD (fun H locs hn1 hP hD hS => ?_)
  refine lv_if_eq (tgt := 17) hx hb dX6_eggs_4 (by decide) (fun hc => ?_) (fun hc => ?_)
  · have hf := if_t hf hc
    refine lv_iconst (v := (-1 : Int32)) hx hb dX6_eggs_17 (ic_m1) ?_
    have hK9 := K0_of hf hK
    exact hRet (-1 : Int32) ftrial _ _ _ _ hK9 dX6_eggs_18 hP hD hS
  · have hf := if_f hf hc
    refine lv_iload_n hx hb dX6_eggs_7 rfl (lv_at hl 2 rfl) ?_
    refine lv_iconst (v := (nI 0)) hx hb dX6_eggs_8 (ic_0) ?_
    refine lv_bipush (v := (nI 60)) hx hb dX6_eggs_9 (bi_60) ?_
    obtain ⟨r11, hc11, hf⟩ := bd_e hf
    refine cl_z_ro (Wd := (wX6 G ad ado f ++ (wX0 G (ado 1) fnow ++ (wX0 G (ado 2) ftrial)))) (Wc := ([] : va_W)) [] rfl (va_runS (As := [.int x2, .int (nI 0), .int (nI 60)]) (rest := []) hC (c_X6_isWithin l G x2 (nI 0) (nI 60) r11 hc11 _) (va_cwS 3 hts gX6_eggs_X6_isWithin rfl rfl rfl (by decide +kernel) ⟨Nat.le_of_ble_eq_true rfl, Nat.le_of_ble_eq_true rfl⟩) ⟨Pc0_blind, fun U hU hW => Pc0_at (Wd := ([] : va_W)) hE (hP.subm [] rfl) (hD.sub [] (by decide) rfl) hU hW⟩ rfl rfl hl.1 rfl (lv_room (Nat.le_of_ble_eq_true rfl)) dX6_eggs_11 ⟨Nat.zero_le _, Nat.zero_le _⟩) hS hA hP hD (fun H locs hn11 hP hD hS => ?_)
    refine lv_if_ne (tgt := 19) hx hb dX6_eggs_14 (by decide) (fun hc => ?_) (fun hc => ?_)
    · have hf := if_f hf hc
      refine lv_aload_n hx hb dX6_eggs_19 rfl (lv_at hl 0 rfl) ?_
      refine va_get (C := RX6) (T := TX6) (N := 11) (ci := 6) (v := .ref ((ado 2) 0)) hx hb hts inX6 hown hT hP 0 rfl rfl 1 (Nat.le_of_ble_eq_true rfl) lk16 (fun _ h => h) rfl dX6_eggs_20 ?_
      refine lv_aload_n hx hb dX6_eggs_23 rfl (lv_at hl 0 rfl) ?_
      refine va_get (C := RX6) (T := TX6) (N := 11) (ci := 6) (v := .ref ((ado 1) 0)) hx hb hts inX6 hown hT hP 0 rfl rfl 0 (Nat.le_of_ble_eq_true rfl) lk12 (fun _ h => h) rfl dX6_eggs_24 ?_
      obtain ⟨ftrial_27, hc27, hf⟩ := bd_e hf
      refine cl_v_up (Wd := (wX6 G ad ado f ++ (wX0 G (ado 1) fnow ++ (wX0 G (ado 2) ftrial)))) (Wc := (wX0 G (ado 2) ftrial ++ (wX0 G (ado 1) fnow))) (W' := (wX0 G (ado 2) ftrial_27 ++ (wX0 G (ado 1) fnow))) (W2 := (wX6 G ad ado f ++ (wX0 G (ado 1) fnow ++ (wX0 G (ado 2) ftrial_27)))) (Wr := (wX6 G ad ado f)) [15, 16, 17, 18, 19, 20, 21, 22, 23, 24, 25, 4, 5, 6, 7, 8, 9, 10, 11, 12, 13, 14] [0, 1, 2, 3] rfl rfl rfl rfl rfl rfl (va_runVN (As := [.ref ((ado 1) 0)]) (rest := []) hC (c_X0_copyFrom l G (ado 2) (ado 1) ftrial fnow ftrial_27 hc27 _) ⟨va_cnB 1 hts gX6_eggs_X0_copyFrom_n93 rfl rfl rfl (hE.2.2 (RX6, 93, yX0_copyFrom, "FeatherShares") (List.mem_of_getElem? (i := 8) rfl)) (hts (.initialized RX0) (by decide +kernel)) (by decide +kernel) ⟨Nat.le_of_ble_eq_true rfl, Nat.le_of_ble_eq_true rfl⟩, hts (.instanceMethod yX0_copyFrom) (by decide +kernel), hts (.selects RX0 yX0_copyFrom yX0_copyFrom) (by decide +kernel)⟩ ⟨Pc0_blind, va_recv hT hP (q0 := 15) (ci := 0) rfl rfl, fun U hU hW => Pc0_at (Wd := (wX0 G (ado 2) ftrial ++ (wX0 G (ado 1) fnow))) hE (hP.subm [15, 16, 17, 18, 19, 20, 21, 22, 23, 24, 25, 4, 5, 6, 7, 8, 9, 10, 11, 12, 13, 14] rfl) (hD.sub [15, 16, 17, 18, 19, 20, 21, 22, 23, 24, 25, 4, 5, 6, 7, 8, 9, 10, 11, 12, 13, 14] (by decide) rfl) hU hW⟩ rfl rfl hl.1 rfl (lv_room (Nat.le_of_ble_eq_true rfl)) dX6_eggs_27 ⟨Nat.zero_le _, Nat.zero_le _⟩) hS hA hP hD (fun H locs hP hD hS => ?_)
      refine lv_aload_n hx hb dX6_eggs_30 rfl (lv_at hl 0 rfl) ?_
      refine va_get (C := RX6) (T := TX6) (N := 11) (ci := 6) (v := .ref ((ado 2) 0)) hx hb hts inX6 hown hT hP 0 rfl rfl 1 (Nat.le_of_ble_eq_true rfl) lk16 (fun _ h => h) rfl dX6_eggs_31 ?_
      refine lv_iload_n hx hb dX6_eggs_34 rfl (lv_at hl 2 rfl) ?_
      obtain ⟨⟨r35, ftrial_35⟩, hc35, hf⟩ := bd_e hf
      try dsimp only at hf
      refine cl_i_up (Wd := (wX6 G ad ado f ++ (wX0 G (ado 1) fnow ++ (wX0 G (ado 2) ftrial_27)))) (Wc := (wX0 G (ado 2) ftrial_27)) (W' := (wX0 G (ado 2) ftrial_35)) (W2 := (wX6 G ad ado f ++ (wX0 G (ado 1) fnow ++ (wX0 G (ado 2) ftrial_35)))) (Wr := (wX6 G ad ado f ++ (wX0 G (ado 1) fnow))) [15, 16, 17, 18, 19, 20, 21, 22, 23, 24, 25] [0, 1, 2, 3, 4, 5, 6, 7, 8, 9, 10, 11, 12, 13, 14] rfl rfl rfl rfl rfl rfl (va_runVN (As := [.int x2]) (rest := []) hC (c_X0_passWeeks l G (ado 2) ftrial_27 x2 r35 ftrial_35 hc35 _) ⟨va_cnB 1 hts gX6_eggs_X0_passWeeks_n194 rfl rfl rfl (hE.2.2 (RX6, 194, yX0_passWeeks, "FeatherShares") (List.mem_of_getElem? (i := 21) rfl)) (hts (.initialized RX0) (by decide +kernel)) (by decide +kernel) ⟨Nat.le_of_ble_eq_true rfl, Nat.le_of_ble_eq_true rfl⟩, hts (.instanceMethod yX0_passWeeks) (by decide +kernel), hts (.selects RX0 yX0_passWeeks yX0_passWeeks) (by decide +kernel)⟩ ⟨Pc0_blind, va_recv hT hP (q0 := 15) (ci := 0) rfl rfl, fun U hU hW => Pc0_at (Wd := (wX0 G (ado 2) ftrial_27)) hE (hP.subm [15, 16, 17, 18, 19, 20, 21, 22, 23, 24, 25] rfl) (hD.sub [15, 16, 17, 18, 19, 20, 21, 22, 23, 24, 25] (by decide) rfl) hU hW⟩ rfl rfl hl.1 rfl (lv_room (Nat.le_of_ble_eq_true rfl)) dX6_eggs_35 ⟨Nat.zero_le _, Nat.zero_le _⟩) hS hA hP hD (fun H locs hP hD hS => ?_)
      refine lv_pop hx hb dX6_eggs_38 rfl ?_
      refine lv_aload_n hx hb dX6_eggs_39 rfl (lv_at hl 0 rfl) ?_
      refine va_get (C := RX6) (T := TX6) (N := 11) (ci := 6) (v := .ref ((ado 2) 0)) hx hb hts inX6 hown hT hP 0 rfl rfl 1 (Nat.le_of_ble_eq_true rfl) lk16 (fun _ h => h) rfl dX6_eggs_40 ?_
      refine va_getN (C := RX0) (T := TX0) (N := 13) (ci := 0) (v := .ref ((ado 2) 6)) hx hb hts inX0 hown hT hP 15 rfl rfl 8 (Nat.le_of_ble_eq_true rfl) lk119 (fun _ h => h) rfl dX6_eggs_43 ?_
      refine lv_iload_n hx hb dX6_eggs_46 rfl (lv_at hl 1 rfl) ?_
      obtain ⟨hg, hf⟩ := gd_e hf
      refine va_iald (f := ftrial_35 6) hx hb hT hP 21 0 rfl rfl (inb_e hg) dX6_eggs_47 ?_
      have hK9 := K0_of hf hK
      exact hRet (ftrial_35 6 x1.toNatClampNeg) ftrial_35 _ _ _ _ hK9 dX6_eggs_48 hP hD hS
    · have hf := if_t hf hc
      refine lv_iconst (v := (-1 : Int32)) hx hb dX6_eggs_17 (ic_m1) ?_
      have hK9 := K0_of hf hK
      exact hRet (-1 : Int32) ftrial _ _ _ _ hK9 dX6_eggs_18 hP hD hS
noncomputable def p_X6_bare_L37 (f : Mem) (fnow : Mem) (x1 : Int32) (x2 : Int32) (z : Int32 × Mem) : Option ((Int32 × Mem) ⊕ (Mem ⊕ (Int32 × Mem))) :=
  match z with
  | (x3, ftrial_) =>
    if (nI 60) < x3 then
      (some (Sum.inr (Sum.inl ftrial_)))
    else
      (Option.bind (p_X0_feathersOf ftrial_ x1) <| fun r48 =>
       if x2 < r48 then
         (Option.bind (p_X0_passWeek ftrial_) <| fun (r61, ftrial_61) =>
          some (Sum.inl ((x3 + nI 1), ftrial_61)))
       else
         (some (Sum.inr (Sum.inr (x3, ftrial_)))))
noncomputable def p_X6_bare (f : Mem) (fnow : Mem) (ftrial : Mem) (x1 : Int32) (x2 : Int32) : Option (Int32 × Mem) :=
  Option.bind (p_X0_hasGoose fnow x1) <| fun r5 =>
  if r5 = 0 then
    (some ((-1 : Int32), ftrial))
  else
    (Option.bind (p_X6_isWithin x2 (nI 0) (nI 495)) <| fun r16 =>
     if r16 = 0 then
       (some ((-1 : Int32), ftrial))
     else
       (Option.bind (p_X0_copyFrom ftrial fnow) <| fun ftrial_32 =>
        Option.bind (lp (p_X6_bare_L37 f fnow x1 x2) ((nI 0), ftrial_32)) <| Sum.elim (fun ftrial_37 =>
          some ((-4 : Int32), ftrial_37)) some))
set_option maxHeartbeats 4000000 in
set_option maxRecDepth 100000 in
theorem c_X6_bare (l : Launch) (G : Gt) (ad : Nat → Nat) (ado : Nat → Nat → Nat) (f : Mem) (fnow : Mem) (ftrial : Mem) (x1 : Int32) (x2 : Int32) (r : Int32) (ftrialz : Mem) (hf : p_X6_bare f fnow ftrial x1 x2 = some (r, ftrialz)) (sz : Nat) : Met l yX6_bare wsX6_bare ({ frames := 4, cells := 0, slots := 0, locals := 110 }) (Pc0 G sz [.ref (ad 0), .int x1, .int x2] (wX6 G ad ado f ++ (wX0 G (ado 1) fnow ++ (wX0 G (ado 2) ftrial)))) (Qi0 G (va_A (wX6 G ad ado f ++ (wX0 G (ado 1) fnow ++ (wX0 G (ado 2) ftrial))) sz) r (wX6 G ad ado f ++ (wX0 G (ado 1) fnow ++ (wX0 G (ado 2) ftrialz)))) 0 0 (va_A (wX6 G ad ado f ++ (wX0 G (ado 1) fnow ++ (wX0 G (ado 2) ftrial))) sz) := by
  refine metP (Qf := fun A => Qi0 G A r (wX6 G ad ado f ++ (wX0 G (ado 1) fnow ++ (wX0 G (ado 2) ftrialz)))) cX6_bare 4 (some .int) (by decide) rfl (Nat.le_of_ble_eq_true rfl) ?_
  intro p e s m below meth c A ls hC hr hlocks hin hE hA hsz hP hD hS hl
  generalize hargs : ([.ref (ad 0), .int x1, .int x2] : List Value).toArray = args at hC ⊢
  obtain ⟨hx, hb, hml, hown, hts⟩ := id hC
  have hT : va_K G.1 vwCl (tyL G) s := hE.1
  have hRet : ∀ (r9 : Int32) (ftrial9 : Mem) (H : Heap) (locs : List Loc) (ls : Array Slot) (pc : Nat) (hK9 : (r9, ftrial9) = (r, ftrialz)) (hdg : decode cX6_bare pc = .ok (.ireturn, 1)), va_P G.1 vwCl (wX6 G ad ado f ++ (wX0 G (ado 1) fnow ++ (wX0 G (ado 2) ftrial9))) H → va_D A (wX6 G ad ado f ++ (wX0 G (ado 1) fnow ++ (wX0 G (ado 2) ftrial9))) → va_S A s.heap H locs → W p l e ({ frames := 4, cells := 0, slots := 0, locals := 110 }) s m args below meth c H locs 0 0 (MQ below (Qi0 G A r (wX6 G ad ado f ++ (wX0 G (ado 1) fnow ++ (wX0 G (ado 2) ftrialz)))) args s 0 0 A) (F0 m pc ls [.int r9]) := by
    intro r9 ftrial9 H locs ls pc hK9 hdg hP hD hS
    cases hK9
    exact W.iret hx hb hr (fun t ht hW => ⟨⟨r, (), rfl, rfl, by rw [ht]; exact hP, hD⟩, hS.F ht⟩) hS.2.2 hdg hlocks
  generalize MQ below (Qi0 G A r (wX6 G ad ado f ++ (wX0 G (ado 1) fnow ++ (wX0 G (ado 2) ftrialz)))) args s 0 0 A = Q at hRet ⊢
  have lk12 := hts (.fieldLink RX6 12 "FeatherShares" "now" "LFeatherShares$Flock;") (by decide +kernel)
  have inX6 : ∀ w ∈ u_ws RX6 TX6 11, w ∈ wsX6_bare := by decide +kernel
  have lk16 := hts (.fieldLink RX6 16 "FeatherShares" "trial" "LFeatherShares$Flock;") (by decide +kernel)
  have hl : lv_has ls 4 [(0, .ref (ad 0)), (1, .int x1), (2, .int x2)] := hl
  have hK0 : (r, ftrialz) = (r, ftrialz) := rfl
  obtain ⟨res, hres, hK⟩ : ∃ res, p_X6_bare f fnow ftrial x1 x2 = some res ∧ res = (r, ftrialz) := ⟨_, hf, rfl⟩
  clear hf
  have hf := hres
  clear hres
  unfold p_X6_bare at hf
  refine lv_aload_n hx hb dX6_bare_0 rfl (lv_at hl 0 rfl) ?_
  refine va_get (C := RX6) (T := TX6) (N := 11) (ci := 6) (v := .ref ((ado 1) 0)) hx hb hts inX6 hown hT hP 0 rfl rfl 0 (Nat.le_of_ble_eq_true rfl) lk12 (fun _ h => h) rfl dX6_bare_1 ?_
  refine lv_iload_n hx hb dX6_bare_4 rfl (lv_at hl 1 rfl) ?_
  obtain ⟨r5, hc5, hf⟩ := bd_e hf
  refine cl_z_ro (Wd := (wX6 G ad ado f ++ (wX0 G (ado 1) fnow ++ (wX0 G (ado 2) ftrial)))) (Wc := (wX0 G (ado 1) fnow)) [4, 5, 6, 7, 8, 9, 10, 11, 12, 13, 14] rfl (va_runVN (As := [.int x1]) (rest := []) hC (c_X0_hasGoose l G (ado 1) fnow x1 r5 hc5 _) ⟨va_cnB 1 hts gX6_bare_X0_hasGoose_n126 rfl rfl rfl (hE.2.2 (RX6, 126, yX0_hasGoose, "FeatherShares") (List.mem_of_getElem? (i := 10) rfl)) (hts (.initialized RX0) (by decide +kernel)) (by decide +kernel) ⟨Nat.le_of_ble_eq_true rfl, Nat.le_of_ble_eq_true rfl⟩, hts (.instanceMethod yX0_hasGoose) (by decide +kernel), hts (.selects RX0 yX0_hasGoose yX0_hasGoose) (by decide +kernel)⟩ ⟨Pc0_blind, va_recv hT hP (q0 := 4) (ci := 0) rfl rfl, fun U hU hW => Pc0_at (Wd := (wX0 G (ado 1) fnow)) hE (hP.subm [4, 5, 6, 7, 8, 9, 10, 11, 12, 13, 14] rfl) (hD.sub [4, 5, 6, 7, 8, 9, 10, 11, 12, 13, 14] (by decide) rfl) hU hW⟩ rfl rfl hl.1 rfl (lv_room (Nat.le_of_ble_eq_true rfl)) dX6_bare_5 ⟨Nat.zero_le _, Nat.zero_le _⟩) hS hA hP hD (fun H locs hn5 hP hD hS => ?_)
  refine lv_if_eq (tgt := 22) hx hb dX6_bare_8 (by decide) (fun hc => ?_) (fun hc => ?_)
  · have hf := if_t hf hc
    refine lv_iconst (v := (-1 : Int32)) hx hb dX6_bare_22 (ic_m1) ?_
    have hK9 := K0_of hf hK
    exact hRet (-1 : Int32) ftrial _ _ _ _ hK9 dX6_bare_23 hP hD hS
  · have hf := if_f hf hc
    refine lv_iload_n hx hb dX6_bare_11 rfl (lv_at hl 2 rfl) ?_
    refine lv_iconst (v := (nI 0)) hx hb dX6_bare_12 (ic_0) ?_
    refine lv_sipush (v := (nI 495)) hx hb dX6_bare_13 (si_495) ?_
    obtain ⟨r16, hc16, hf⟩ := bd_e hf
    refine cl_z_ro (Wd := (wX6 G ad ado f ++ (wX0 G (ado 1) fnow ++ (wX0 G (ado 2) ftrial)))) (Wc := ([] : va_W)) [] rfl (va_runS (As := [.int x2, .int (nI 0), .int (nI 495)]) (rest := []) hC (c_X6_isWithin l G x2 (nI 0) (nI 495) r16 hc16 _) (va_cwS 3 hts gX6_bare_X6_isWithin rfl rfl rfl (by decide +kernel) ⟨Nat.le_of_ble_eq_true rfl, Nat.le_of_ble_eq_true rfl⟩) ⟨Pc0_blind, fun U hU hW => Pc0_at (Wd := ([] : va_W)) hE (hP.subm [] rfl) (hD.sub [] (by decide) rfl) hU hW⟩ rfl rfl hl.1 rfl (lv_room (Nat.le_of_ble_eq_true rfl)) dX6_bare_16 ⟨Nat.zero_le _, Nat.zero_le _⟩) hS hA hP hD (fun H locs hn16 hP hD hS => ?_)
    refine lv_if_ne (tgt := 24) hx hb dX6_bare_19 (by decide) (fun hc => ?_) (fun hc => ?_)
    · have hf := if_f hf hc
      refine lv_aload_n hx hb dX6_bare_24 rfl (lv_at hl 0 rfl) ?_
      refine va_get (C := RX6) (T := TX6) (N := 11) (ci := 6) (v := .ref ((ado 2) 0)) hx hb hts inX6 hown hT hP 0 rfl rfl 1 (Nat.le_of_ble_eq_true rfl) lk16 (fun _ h => h) rfl dX6_bare_25 ?_
      refine lv_aload_n hx hb dX6_bare_28 rfl (lv_at hl 0 rfl) ?_
      refine va_get (C := RX6) (T := TX6) (N := 11) (ci := 6) (v := .ref ((ado 1) 0)) hx hb hts inX6 hown hT hP 0 rfl rfl 0 (Nat.le_of_ble_eq_true rfl) lk12 (fun _ h => h) rfl dX6_bare_29 ?_
      obtain ⟨ftrial_32, hc32, hf⟩ := bd_e hf
      refine cl_v_up (Wd := (wX6 G ad ado f ++ (wX0 G (ado 1) fnow ++ (wX0 G (ado 2) ftrial)))) (Wc := (wX0 G (ado 2) ftrial ++ (wX0 G (ado 1) fnow))) (W' := (wX0 G (ado 2) ftrial_32 ++ (wX0 G (ado 1) fnow))) (W2 := (wX6 G ad ado f ++ (wX0 G (ado 1) fnow ++ (wX0 G (ado 2) ftrial_32)))) (Wr := (wX6 G ad ado f)) [15, 16, 17, 18, 19, 20, 21, 22, 23, 24, 25, 4, 5, 6, 7, 8, 9, 10, 11, 12, 13, 14] [0, 1, 2, 3] rfl rfl rfl rfl rfl rfl (va_runVN (As := [.ref ((ado 1) 0)]) (rest := []) hC (c_X0_copyFrom l G (ado 2) (ado 1) ftrial fnow ftrial_32 hc32 _) ⟨va_cnB 1 hts gX6_bare_X0_copyFrom_n93 rfl rfl rfl (hE.2.2 (RX6, 93, yX0_copyFrom, "FeatherShares") (List.mem_of_getElem? (i := 8) rfl)) (hts (.initialized RX0) (by decide +kernel)) (by decide +kernel) ⟨Nat.le_of_ble_eq_true rfl, Nat.le_of_ble_eq_true rfl⟩, hts (.instanceMethod yX0_copyFrom) (by decide +kernel), hts (.selects RX0 yX0_copyFrom yX0_copyFrom) (by decide +kernel)⟩ ⟨Pc0_blind, va_recv hT hP (q0 := 15) (ci := 0) rfl rfl, fun U hU hW => Pc0_at (Wd := (wX0 G (ado 2) ftrial ++ (wX0 G (ado 1) fnow))) hE (hP.subm [15, 16, 17, 18, 19, 20, 21, 22, 23, 24, 25, 4, 5, 6, 7, 8, 9, 10, 11, 12, 13, 14] rfl) (hD.sub [15, 16, 17, 18, 19, 20, 21, 22, 23, 24, 25, 4, 5, 6, 7, 8, 9, 10, 11, 12, 13, 14] (by decide) rfl) hU hW⟩ rfl rfl hl.1 rfl (lv_room (Nat.le_of_ble_eq_true rfl)) dX6_bare_32 ⟨Nat.zero_le _, Nat.zero_le _⟩) hS hA hP hD (fun H locs hP hD hS => ?_)
      refine lv_iconst (v := (nI 0)) hx hb dX6_bare_35 (ic_0) ?_
      refine lv_istore_n (lv' := [(3, .int (nI 0)), (0, .ref (ad 0)), (1, .int x1), (2, .int x2)]) hx hb dX6_bare_36 rfl hl (by decide) rfl (fun ls hl => ?_)
      obtain ⟨ze, hlp, hf⟩ := bd_e hf
      refine lp_W2 (p_X6_bare_L37 f fnow x1 x2) (fun z => match z with | (x3, ftrial_) => ∀ (H : Heap) (locs : List Loc) (ls : Array Slot), va_P G.1 vwCl (wX6 G ad ado f ++ (wX0 G (ado 1) fnow ++ (wX0 G (ado 2) ftrial_))) H → va_D A (wX6 G ad ado f ++ (wX0 G (ado 1) fnow ++ (wX0 G (ado 2) ftrial_))) → va_S A s.heap H locs → lv_has ls 4 [(0, .ref (ad 0)), (1, .int x1), (2, .int x2), (3, .int x3)] → W p l e ({ frames := 4, cells := 0, slots := 0, locals := 110 }) s m args below meth c H locs 0 0 Q (F0 m 37 ls [])) (fun (ftrial_37 : Mem) => ∀ (H : Heap) (locs : List Loc) (ls : Array Slot), va_P G.1 vwCl (wX6 G ad ado f ++ (wX0 G (ado 1) fnow ++ (wX0 G (ado 2) ftrial_37))) H → va_D A (wX6 G ad ado f ++ (wX0 G (ado 1) fnow ++ (wX0 G (ado 2) ftrial_37))) → va_S A s.heap H locs → lv_has ls 4 [] → W p l e ({ frames := 4, cells := 0, slots := 0, locals := 110 }) s m args below meth c H locs 0 0 Q (F0 m 71 ls [])) (fun z => z = (r, ftrialz)) ?_ hlp ?_ _ _ _ hP hD hS (lv_sub hl [1, 2, 3, 0] rfl)
      · clear hlp hf hK hP hD hS hl
        intro K37 hW37 hX37 hO37
        rintro ⟨x3, ftrial_⟩ res hf hK H locs ls hP hD hS hl
        unfold p_X6_bare_L37 at hf
        dsimp only at hf
        refine lv_iload_n hx hb dX6_bare_37 rfl (lv_at hl 3 rfl) ?_
        refine lv_bipush (v := (nI 60)) hx hb dX6_bare_38 (bi_60) ?_
        refine lv_icmp_gt (tgt := 71) hx hb dX6_bare_40 (by decide) (fun hc => ?_) (fun hc => ?_)
        · have hf := if_t hf hc
          have hK9 := K_of hf hK
          have hK9 := hX37 _ hK9
          exact hK9 _ _ _ hP hD hS (lv_sub hl [] rfl)
        · have hf := if_f hf hc
          refine lv_aload_n hx hb dX6_bare_43 rfl (lv_at hl 0 rfl) ?_
          refine va_get (C := RX6) (T := TX6) (N := 11) (ci := 6) (v := .ref ((ado 2) 0)) hx hb hts inX6 hown hT hP 0 rfl rfl 1 (Nat.le_of_ble_eq_true rfl) lk16 (fun _ h => h) rfl dX6_bare_44 ?_
          refine lv_iload_n hx hb dX6_bare_47 rfl (lv_at hl 1 rfl) ?_
          obtain ⟨r48, hc48, hf⟩ := bd_e hf
          refine cl_i_ro (Wd := (wX6 G ad ado f ++ (wX0 G (ado 1) fnow ++ (wX0 G (ado 2) ftrial_)))) (Wc := (wX0 G (ado 2) ftrial_)) [15, 16, 17, 18, 19, 20, 21, 22, 23, 24, 25] rfl (va_runVN (As := [.int x1]) (rest := []) hC (c_X0_feathersOf l G (ado 2) ftrial_ x1 r48 hc48 _) ⟨va_cnB 1 hts gX6_bare_X0_feathersOf_n138 rfl rfl rfl (hE.2.2 (RX6, 138, yX0_feathersOf, "FeatherShares") (List.mem_of_getElem? (i := 11) rfl)) (hts (.initialized RX0) (by decide +kernel)) (by decide +kernel) ⟨Nat.le_of_ble_eq_true rfl, Nat.le_of_ble_eq_true rfl⟩, hts (.instanceMethod yX0_feathersOf) (by decide +kernel), hts (.selects RX0 yX0_feathersOf yX0_feathersOf) (by decide +kernel)⟩ ⟨Pc0_blind, va_recv hT hP (q0 := 15) (ci := 0) rfl rfl, fun U hU hW => Pc0_at (Wd := (wX0 G (ado 2) ftrial_)) hE (hP.subm [15, 16, 17, 18, 19, 20, 21, 22, 23, 24, 25] rfl) (hD.sub [15, 16, 17, 18, 19, 20, 21, 22, 23, 24, 25] (by decide) rfl) hU hW⟩ rfl rfl hl.1 rfl (lv_room (Nat.le_of_ble_eq_true rfl)) dX6_bare_48 ⟨Nat.zero_le _, Nat.zero_le _⟩) hS hA hP hD (fun H locs hP hD hS => ?_)
          refine lv_iload_n hx hb dX6_bare_51 rfl (lv_at hl 2 rfl) ?_
          refine lv_icmp_gt (tgt := 57) hx hb dX6_bare_52 (by decide) (fun hc => ?_) (fun hc => ?_)
          · have hf := if_t hf hc
            refine lv_aload_n hx hb dX6_bare_57 rfl (lv_at hl 0 rfl) ?_
            refine va_get (C := RX6) (T := TX6) (N := 11) (ci := 6) (v := .ref ((ado 2) 0)) hx hb hts inX6 hown hT hP 0 rfl rfl 1 (Nat.le_of_ble_eq_true rfl) lk16 (fun _ h => h) rfl dX6_bare_58 ?_
            obtain ⟨⟨r61, ftrial_61⟩, hc61, hf⟩ := bd_e hf
            try dsimp only at hf
            refine cl_i_up (Wd := (wX6 G ad ado f ++ (wX0 G (ado 1) fnow ++ (wX0 G (ado 2) ftrial_)))) (Wc := (wX0 G (ado 2) ftrial_)) (W' := (wX0 G (ado 2) ftrial_61)) (W2 := (wX6 G ad ado f ++ (wX0 G (ado 1) fnow ++ (wX0 G (ado 2) ftrial_61)))) (Wr := (wX6 G ad ado f ++ (wX0 G (ado 1) fnow))) [15, 16, 17, 18, 19, 20, 21, 22, 23, 24, 25] [0, 1, 2, 3, 4, 5, 6, 7, 8, 9, 10, 11, 12, 13, 14] rfl rfl rfl rfl rfl rfl (va_runVN (As := []) (rest := []) hC (c_X0_passWeek l G (ado 2) ftrial_ r61 ftrial_61 hc61 _) ⟨va_cnB 0 hts gX6_bare_X0_passWeek_n207 rfl rfl rfl (hE.2.2 (RX6, 207, yX0_passWeek, "FeatherShares") (List.mem_of_getElem? (i := 25) rfl)) (hts (.initialized RX0) (by decide +kernel)) (by decide +kernel) ⟨Nat.le_of_ble_eq_true rfl, Nat.le_of_ble_eq_true rfl⟩, hts (.instanceMethod yX0_passWeek) (by decide +kernel), hts (.selects RX0 yX0_passWeek yX0_passWeek) (by decide +kernel)⟩ ⟨Pc0_blind, va_recv hT hP (q0 := 15) (ci := 0) rfl rfl, fun U hU hW => Pc0_at (Wd := (wX0 G (ado 2) ftrial_)) hE (hP.subm [15, 16, 17, 18, 19, 20, 21, 22, 23, 24, 25] rfl) (hD.sub [15, 16, 17, 18, 19, 20, 21, 22, 23, 24, 25] (by decide) rfl) hU hW⟩ rfl rfl hl.1 rfl (lv_room (Nat.le_of_ble_eq_true rfl)) dX6_bare_61 ⟨Nat.zero_le _, Nat.zero_le _⟩) hS hA hP hD (fun H locs hP hD hS => ?_)
            refine lv_pop hx hb dX6_bare_64 rfl ?_
            refine lv_iinc (v := (x3 + nI 1)) (lv' := [(3, .int (x3 + nI 1)), (0, .ref (ad 0)), (1, .int x1), (2, .int x2)]) hx hb dX6_bare_65 hl (k := 3) rfl (ii_x 1 _) (by decide) rfl (fun ls hl => ?_)
            refine lv_goto (tgt := 37) hx hb dX6_bare_68 (by decide) ?_
            have hK9 := K_of hf hK
            have hK9 := hW37 _ hK9
            exact hK9 _ _ _ hP hD hS (lv_sub hl [1, 2, 3, 0] rfl)
          · have hf := if_f hf hc
            refine lv_iload_n hx hb dX6_bare_55 rfl (lv_at hl 3 rfl) ?_
            have hK9 := K_of hf hK
            have hK9 := hO37 _ hK9
            exact hRet x3 ftrial_ _ _ _ _ hK9 dX6_bare_56 hP hD hS
      · rcases ze with ftrial_37 | zo
        · try simp only [Sum.elim_inl] at hf
          try dsimp only at hf
          show ∀ (H : Heap) (locs : List Loc) (ls : Array Slot), va_P G.1 vwCl (wX6 G ad ado f ++ (wX0 G (ado 1) fnow ++ (wX0 G (ado 2) ftrial_37))) H → va_D A (wX6 G ad ado f ++ (wX0 G (ado 1) fnow ++ (wX0 G (ado 2) ftrial_37))) → va_S A s.heap H locs → lv_has ls 4 [] → W p l e ({ frames := 4, cells := 0, slots := 0, locals := 110 }) s m args below meth c H locs 0 0 Q (F0 m 71 ls [])
          intro H locs ls hP hD hS hl
          refine lv_bipush (v := (-4 : Int32)) hx hb dX6_bare_71 (bi_m4) ?_
          have hK9 := K0_of hf hK
          exact hRet (-4 : Int32) ftrial_37 _ _ _ _ hK9 dX6_bare_73 hP hD hS
        · have hK9 := K0_of (show some zo = some _ from hf) hK
          exact hK9
    · have hf := if_t hf hc
      refine lv_iconst (v := (-1 : Int32)) hx hb dX6_bare_22 (ic_m1) ?_
      have hK9 := K0_of hf hK
      exact hRet (-1 : Int32) ftrial _ _ _ _ hK9 dX6_bare_23 hP hD hS
noncomputable def p_X6_rich_L46 (f : Mem) (fnow : Mem) (ftrial : Mem) (x2 : Int32) (z : Int32 × Int32) : Option ((Int32 × Int32) ⊕ Int32) :=
  match z with
  | (x3, x4) =>
    if (nI 5) ≤ x4 then
      (some (Sum.inr x3))
    else
      (Option.bind (p_X0_worth ftrial x4) <| fun r58 =>
       Option.bind (p_X0_worth ftrial x3) <| fun r66 =>
       if r58 ≤ r66 then
         (some (Sum.inl (x3, (x4 + nI 1))))
       else
         (some (Sum.inl (x4, (x4 + nI 1)))))
noncomputable def p_X6_rich (f : Mem) (fnow : Mem) (ftrial : Mem) (x1 : Int32) (x2 : Int32) : Option (Int32 × Mem) :=
  Option.bind (p_X6_isWithin x1 (nI 0) (nI 60)) <| fun r4 =>
  if r4 = 0 then
    (some ((-1 : Int32), ftrial))
  else
    (Option.bind (p_X6_isWithin x2 (nI 0) (nI 1)) <| fun r13 =>
     if r13 = 0 then
       (some ((-1 : Int32), ftrial))
     else
       (Option.bind (p_X0_copyFrom ftrial fnow) <| fun ftrial_29 =>
        Option.bind (p_X0_passWeeks ftrial_29 x1) <| fun (r37, ftrial_37) =>
        Option.bind (lp (p_X6_rich_L46 f fnow ftrial_37 x2) ((nI 0), (nI 1))) <| fun y3_46 =>
        if x2 = 0 then
          (some (y3_46, ftrial_37))
        else
          (Option.bind (p_X0_worth ftrial_37 y3_46) <| fun r94 =>
           some (r94, ftrial_37))))
set_option maxHeartbeats 4000000 in
set_option maxRecDepth 100000 in
theorem c_X6_rich (l : Launch) (G : Gt) (ad : Nat → Nat) (ado : Nat → Nat → Nat) (f : Mem) (fnow : Mem) (ftrial : Mem) (x1 : Int32) (x2 : Int32) (r : Int32) (ftrialz : Mem) (hf : p_X6_rich f fnow ftrial x1 x2 = some (r, ftrialz)) (sz : Nat) : Met l yX6_rich wsX6_rich ({ frames := 5, cells := 0, slots := 0, locals := 133 }) (Pc0 G sz [.ref (ad 0), .int x1, .int x2] (wX6 G ad ado f ++ (wX0 G (ado 1) fnow ++ (wX0 G (ado 2) ftrial)))) (Qi0 G (va_A (wX6 G ad ado f ++ (wX0 G (ado 1) fnow ++ (wX0 G (ado 2) ftrial))) sz) r (wX6 G ad ado f ++ (wX0 G (ado 1) fnow ++ (wX0 G (ado 2) ftrialz)))) 0 0 (va_A (wX6 G ad ado f ++ (wX0 G (ado 1) fnow ++ (wX0 G (ado 2) ftrial))) sz) := by
  refine metP (Qf := fun A => Qi0 G A r (wX6 G ad ado f ++ (wX0 G (ado 1) fnow ++ (wX0 G (ado 2) ftrialz)))) cX6_rich 5 (some .int) (by decide) rfl (Nat.le_of_ble_eq_true rfl) ?_
  intro p e s m below meth c A ls hC hr hlocks hin hE hA hsz hP hD hS hl
  generalize hargs : ([.ref (ad 0), .int x1, .int x2] : List Value).toArray = args at hC ⊢
  obtain ⟨hx, hb, hml, hown, hts⟩ := id hC
  have hT : va_K G.1 vwCl (tyL G) s := hE.1
  have hRet : ∀ (r9 : Int32) (ftrial9 : Mem) (H : Heap) (locs : List Loc) (ls : Array Slot) (pc : Nat) (hK9 : (r9, ftrial9) = (r, ftrialz)) (hdg : decode cX6_rich pc = .ok (.ireturn, 1)), va_P G.1 vwCl (wX6 G ad ado f ++ (wX0 G (ado 1) fnow ++ (wX0 G (ado 2) ftrial9))) H → va_D A (wX6 G ad ado f ++ (wX0 G (ado 1) fnow ++ (wX0 G (ado 2) ftrial9))) → va_S A s.heap H locs → W p l e ({ frames := 5, cells := 0, slots := 0, locals := 133 }) s m args below meth c H locs 0 0 (MQ below (Qi0 G A r (wX6 G ad ado f ++ (wX0 G (ado 1) fnow ++ (wX0 G (ado 2) ftrialz)))) args s 0 0 A) (F0 m pc ls [.int r9]) := by
    intro r9 ftrial9 H locs ls pc hK9 hdg hP hD hS
    cases hK9
    exact W.iret hx hb hr (fun t ht hW => ⟨⟨r, (), rfl, rfl, by rw [ht]; exact hP, hD⟩, hS.F ht⟩) hS.2.2 hdg hlocks
  generalize MQ below (Qi0 G A r (wX6 G ad ado f ++ (wX0 G (ado 1) fnow ++ (wX0 G (ado 2) ftrialz)))) args s 0 0 A = Q at hRet ⊢
  have lk16 := hts (.fieldLink RX6 16 "FeatherShares" "trial" "LFeatherShares$Flock;") (by decide +kernel)
  have inX6 : ∀ w ∈ u_ws RX6 TX6 11, w ∈ wsX6_rich := by decide +kernel
  have lk12 := hts (.fieldLink RX6 12 "FeatherShares" "now" "LFeatherShares$Flock;") (by decide +kernel)
  have hl : lv_has ls 5 [(0, .ref (ad 0)), (1, .int x1), (2, .int x2)] := hl
  have hK0 : (r, ftrialz) = (r, ftrialz) := rfl
  obtain ⟨res, hres, hK⟩ : ∃ res, p_X6_rich f fnow ftrial x1 x2 = some res ∧ res = (r, ftrialz) := ⟨_, hf, rfl⟩
  clear hf
  have hf := hres
  clear hres
  unfold p_X6_rich at hf
  refine lv_iload_n hx hb dX6_rich_0 rfl (lv_at hl 1 rfl) ?_
  refine lv_iconst (v := (nI 0)) hx hb dX6_rich_1 (ic_0) ?_
  refine lv_bipush (v := (nI 60)) hx hb dX6_rich_2 (bi_60) ?_
  obtain ⟨r4, hc4, hf⟩ := bd_e hf
  refine cl_z_ro (Wd := (wX6 G ad ado f ++ (wX0 G (ado 1) fnow ++ (wX0 G (ado 2) ftrial)))) (Wc := ([] : va_W)) [] rfl (va_runS (As := [.int x1, .int (nI 0), .int (nI 60)]) (rest := []) hC (c_X6_isWithin l G x1 (nI 0) (nI 60) r4 hc4 _) (va_cwS 3 hts gX6_rich_X6_isWithin rfl rfl rfl (by decide +kernel) ⟨Nat.le_of_ble_eq_true rfl, Nat.le_of_ble_eq_true rfl⟩) ⟨Pc0_blind, fun U hU hW => Pc0_at (Wd := ([] : va_W)) hE (hP.subm [] rfl) (hD.sub [] (by decide) rfl) hU hW⟩ rfl rfl hl.1 rfl (lv_room (Nat.le_of_ble_eq_true rfl)) dX6_rich_4 ⟨Nat.zero_le _, Nat.zero_le _⟩) hS hA hP hD (fun H locs hn4 hP hD hS => ?_)
  refine lv_if_eq (tgt := 19) hx hb dX6_rich_7 (by decide) (fun hc => ?_) (fun hc => ?_)
  · have hf := if_t hf hc
    refine lv_iconst (v := (-1 : Int32)) hx hb dX6_rich_19 (ic_m1) ?_
    have hK9 := K0_of hf hK
    exact hRet (-1 : Int32) ftrial _ _ _ _ hK9 dX6_rich_20 hP hD hS
  · have hf := if_f hf hc
    refine lv_iload_n hx hb dX6_rich_10 rfl (lv_at hl 2 rfl) ?_
    refine lv_iconst (v := (nI 0)) hx hb dX6_rich_11 (ic_0) ?_
    refine lv_iconst (v := (nI 1)) hx hb dX6_rich_12 (ic_1) ?_
    obtain ⟨r13, hc13, hf⟩ := bd_e hf
    refine cl_z_ro (Wd := (wX6 G ad ado f ++ (wX0 G (ado 1) fnow ++ (wX0 G (ado 2) ftrial)))) (Wc := ([] : va_W)) [] rfl (va_runS (As := [.int x2, .int (nI 0), .int (nI 1)]) (rest := []) hC (c_X6_isWithin l G x2 (nI 0) (nI 1) r13 hc13 _) (va_cwS 3 hts gX6_rich_X6_isWithin rfl rfl rfl (by decide +kernel) ⟨Nat.le_of_ble_eq_true rfl, Nat.le_of_ble_eq_true rfl⟩) ⟨Pc0_blind, fun U hU hW => Pc0_at (Wd := ([] : va_W)) hE (hP.subm [] rfl) (hD.sub [] (by decide) rfl) hU hW⟩ rfl rfl hl.1 rfl (lv_room (Nat.le_of_ble_eq_true rfl)) dX6_rich_13 ⟨Nat.zero_le _, Nat.zero_le _⟩) hS hA hP hD (fun H locs hn13 hP hD hS => ?_)
    refine lv_if_ne (tgt := 21) hx hb dX6_rich_16 (by decide) (fun hc => ?_) (fun hc => ?_)
    · have hf := if_f hf hc
      refine lv_aload_n hx hb dX6_rich_21 rfl (lv_at hl 0 rfl) ?_
      refine va_get (C := RX6) (T := TX6) (N := 11) (ci := 6) (v := .ref ((ado 2) 0)) hx hb hts inX6 hown hT hP 0 rfl rfl 1 (Nat.le_of_ble_eq_true rfl) lk16 (fun _ h => h) rfl dX6_rich_22 ?_
      refine lv_aload_n hx hb dX6_rich_25 rfl (lv_at hl 0 rfl) ?_
      refine va_get (C := RX6) (T := TX6) (N := 11) (ci := 6) (v := .ref ((ado 1) 0)) hx hb hts inX6 hown hT hP 0 rfl rfl 0 (Nat.le_of_ble_eq_true rfl) lk12 (fun _ h => h) rfl dX6_rich_26 ?_
      obtain ⟨ftrial_29, hc29, hf⟩ := bd_e hf
      refine cl_v_up (Wd := (wX6 G ad ado f ++ (wX0 G (ado 1) fnow ++ (wX0 G (ado 2) ftrial)))) (Wc := (wX0 G (ado 2) ftrial ++ (wX0 G (ado 1) fnow))) (W' := (wX0 G (ado 2) ftrial_29 ++ (wX0 G (ado 1) fnow))) (W2 := (wX6 G ad ado f ++ (wX0 G (ado 1) fnow ++ (wX0 G (ado 2) ftrial_29)))) (Wr := (wX6 G ad ado f)) [15, 16, 17, 18, 19, 20, 21, 22, 23, 24, 25, 4, 5, 6, 7, 8, 9, 10, 11, 12, 13, 14] [0, 1, 2, 3] rfl rfl rfl rfl rfl rfl (va_runVN (As := [.ref ((ado 1) 0)]) (rest := []) hC (c_X0_copyFrom l G (ado 2) (ado 1) ftrial fnow ftrial_29 hc29 _) ⟨va_cnB 1 hts gX6_rich_X0_copyFrom_n93 rfl rfl rfl (hE.2.2 (RX6, 93, yX0_copyFrom, "FeatherShares") (List.mem_of_getElem? (i := 8) rfl)) (hts (.initialized RX0) (by decide +kernel)) (by decide +kernel) ⟨Nat.le_of_ble_eq_true rfl, Nat.le_of_ble_eq_true rfl⟩, hts (.instanceMethod yX0_copyFrom) (by decide +kernel), hts (.selects RX0 yX0_copyFrom yX0_copyFrom) (by decide +kernel)⟩ ⟨Pc0_blind, va_recv hT hP (q0 := 15) (ci := 0) rfl rfl, fun U hU hW => Pc0_at (Wd := (wX0 G (ado 2) ftrial ++ (wX0 G (ado 1) fnow))) hE (hP.subm [15, 16, 17, 18, 19, 20, 21, 22, 23, 24, 25, 4, 5, 6, 7, 8, 9, 10, 11, 12, 13, 14] rfl) (hD.sub [15, 16, 17, 18, 19, 20, 21, 22, 23, 24, 25, 4, 5, 6, 7, 8, 9, 10, 11, 12, 13, 14] (by decide) rfl) hU hW⟩ rfl rfl hl.1 rfl (lv_room (Nat.le_of_ble_eq_true rfl)) dX6_rich_29 ⟨Nat.zero_le _, Nat.zero_le _⟩) hS hA hP hD (fun H locs hP hD hS => ?_)
      refine lv_aload_n hx hb dX6_rich_32 rfl (lv_at hl 0 rfl) ?_
      refine va_get (C := RX6) (T := TX6) (N := 11) (ci := 6) (v := .ref ((ado 2) 0)) hx hb hts inX6 hown hT hP 0 rfl rfl 1 (Nat.le_of_ble_eq_true rfl) lk16 (fun _ h => h) rfl dX6_rich_33 ?_
      refine lv_iload_n hx hb dX6_rich_36 rfl (lv_at hl 1 rfl) ?_
      obtain ⟨⟨r37, ftrial_37⟩, hc37, hf⟩ := bd_e hf
      try dsimp only at hf
      refine cl_i_up (Wd := (wX6 G ad ado f ++ (wX0 G (ado 1) fnow ++ (wX0 G (ado 2) ftrial_29)))) (Wc := (wX0 G (ado 2) ftrial_29)) (W' := (wX0 G (ado 2) ftrial_37)) (W2 := (wX6 G ad ado f ++ (wX0 G (ado 1) fnow ++ (wX0 G (ado 2) ftrial_37)))) (Wr := (wX6 G ad ado f ++ (wX0 G (ado 1) fnow))) [15, 16, 17, 18, 19, 20, 21, 22, 23, 24, 25] [0, 1, 2, 3, 4, 5, 6, 7, 8, 9, 10, 11, 12, 13, 14] rfl rfl rfl rfl rfl rfl (va_runVN (As := [.int x1]) (rest := []) hC (c_X0_passWeeks l G (ado 2) ftrial_29 x1 r37 ftrial_37 hc37 _) ⟨va_cnB 1 hts gX6_rich_X0_passWeeks_n194 rfl rfl rfl (hE.2.2 (RX6, 194, yX0_passWeeks, "FeatherShares") (List.mem_of_getElem? (i := 21) rfl)) (hts (.initialized RX0) (by decide +kernel)) (by decide +kernel) ⟨Nat.le_of_ble_eq_true rfl, Nat.le_of_ble_eq_true rfl⟩, hts (.instanceMethod yX0_passWeeks) (by decide +kernel), hts (.selects RX0 yX0_passWeeks yX0_passWeeks) (by decide +kernel)⟩ ⟨Pc0_blind, va_recv hT hP (q0 := 15) (ci := 0) rfl rfl, fun U hU hW => Pc0_at (Wd := (wX0 G (ado 2) ftrial_29)) hE (hP.subm [15, 16, 17, 18, 19, 20, 21, 22, 23, 24, 25] rfl) (hD.sub [15, 16, 17, 18, 19, 20, 21, 22, 23, 24, 25] (by decide) rfl) hU hW⟩ rfl rfl hl.1 rfl (lv_room (Nat.le_of_ble_eq_true rfl)) dX6_rich_37 ⟨Nat.zero_le _, Nat.zero_le _⟩) hS hA hP hD (fun H locs hP hD hS => ?_)
      refine lv_pop hx hb dX6_rich_40 rfl ?_
      refine lv_iconst (v := (nI 0)) hx hb dX6_rich_41 (ic_0) ?_
      refine lv_istore_n (lv' := [(3, .int (nI 0)), (0, .ref (ad 0)), (1, .int x1), (2, .int x2)]) hx hb dX6_rich_42 rfl hl (by decide) rfl (fun ls hl => ?_)
      refine lv_iconst (v := (nI 1)) hx hb dX6_rich_43 (ic_1) ?_
      refine lv_istore (lv' := [(4, .int (nI 1)), (3, .int (nI 0)), (0, .ref (ad 0)), (1, .int x1), (2, .int x2)]) hx hb dX6_rich_44 hl (by decide) rfl (fun ls hl => ?_)
      obtain ⟨y3_46, hlp, hf⟩ := bd_e hf
      refine lp_W1 (p_X6_rich_L46 f fnow ftrial_37 x2) (fun z => match z with | (x3, x4) => ∀ (H : Heap) (locs : List Loc) (ls : Array Slot), va_P G.1 vwCl (wX6 G ad ado f ++ (wX0 G (ado 1) fnow ++ (wX0 G (ado 2) ftrial_37))) H → va_D A (wX6 G ad ado f ++ (wX0 G (ado 1) fnow ++ (wX0 G (ado 2) ftrial_37))) → va_S A s.heap H locs → lv_has ls 5 [(0, .ref (ad 0)), (2, .int x2), (3, .int x3), (4, .int x4)] → W p l e ({ frames := 5, cells := 0, slots := 0, locals := 133 }) s m args below meth c H locs 0 0 Q (F0 m 46 ls [])) (fun (y3_46 : Int32) => ∀ (H : Heap) (locs : List Loc) (ls : Array Slot), va_P G.1 vwCl (wX6 G ad ado f ++ (wX0 G (ado 1) fnow ++ (wX0 G (ado 2) ftrial_37))) H → va_D A (wX6 G ad ado f ++ (wX0 G (ado 1) fnow ++ (wX0 G (ado 2) ftrial_37))) → va_S A s.heap H locs → lv_has ls 5 [(0, .ref (ad 0)), (2, .int x2), (3, .int y3_46)] → W p l e ({ frames := 5, cells := 0, slots := 0, locals := 133 }) s m args below meth c H locs 0 0 Q (F0 m 81 ls [])) ?_ hlp ?_ _ _ _ hP hD hS (lv_sub hl [2, 4, 1, 0] rfl)
      · clear hlp hf hK hP hD hS hl
        generalize ftrial_37 = ftrial
        intro K46 hW46 hX46 
        rintro ⟨x3, x4⟩ res hf hK H locs ls hP hD hS hl
        unfold p_X6_rich_L46 at hf
        dsimp only at hf
        refine lv_iload hx hb dX6_rich_46 (lv_at hl 3 rfl) ?_
        refine lv_iconst (v := (nI 5)) hx hb dX6_rich_48 (ic_5) ?_
        refine lv_icmp_ge (tgt := 81) hx hb dX6_rich_49 (by decide) (fun hc => ?_) (fun hc => ?_)
        · have hf := if_t hf hc
          have hK9 := K_of hf hK
          have hK9 := hX46 _ hK9
          exact hK9 _ _ _ hP hD hS (lv_sub hl [0, 1, 2] rfl)
        · have hf := if_f hf hc
          refine lv_aload_n hx hb dX6_rich_52 rfl (lv_at hl 0 rfl) ?_
          refine va_get (C := RX6) (T := TX6) (N := 11) (ci := 6) (v := .ref ((ado 2) 0)) hx hb hts inX6 hown hT hP 0 rfl rfl 1 (Nat.le_of_ble_eq_true rfl) lk16 (fun _ h => h) rfl dX6_rich_53 ?_
          refine lv_iload hx hb dX6_rich_56 (lv_at hl 3 rfl) ?_
          obtain ⟨r58, hc58, hf⟩ := bd_e hf
          refine cl_i_ro (Wd := (wX6 G ad ado f ++ (wX0 G (ado 1) fnow ++ (wX0 G (ado 2) ftrial)))) (Wc := (wX0 G (ado 2) ftrial)) [15, 16, 17, 18, 19, 20, 21, 22, 23, 24, 25] rfl (va_runVN (As := [.int x4]) (rest := []) hC (c_X0_worth l G (ado 2) ftrial x4 r58 hc58 _) ⟨va_cnB 1 hts gX6_rich_X0_worth_n210 rfl rfl rfl (hE.2.2 (RX6, 210, yX0_worth, "FeatherShares") (List.mem_of_getElem? (i := 26) rfl)) (hts (.initialized RX0) (by decide +kernel)) (by decide +kernel) ⟨Nat.le_of_ble_eq_true rfl, Nat.le_of_ble_eq_true rfl⟩, hts (.instanceMethod yX0_worth) (by decide +kernel), hts (.selects RX0 yX0_worth yX0_worth) (by decide +kernel)⟩ ⟨Pc0_blind, va_recv hT hP (q0 := 15) (ci := 0) rfl rfl, fun U hU hW => Pc0_at (Wd := (wX0 G (ado 2) ftrial)) hE (hP.subm [15, 16, 17, 18, 19, 20, 21, 22, 23, 24, 25] rfl) (hD.sub [15, 16, 17, 18, 19, 20, 21, 22, 23, 24, 25] (by decide) rfl) hU hW⟩ rfl rfl hl.1 rfl (lv_room (Nat.le_of_ble_eq_true rfl)) dX6_rich_58 ⟨Nat.zero_le _, Nat.zero_le _⟩) hS hA hP hD (fun H locs hP hD hS => ?_)
          refine lv_aload_n hx hb dX6_rich_61 rfl (lv_at hl 0 rfl) ?_
          refine va_get (C := RX6) (T := TX6) (N := 11) (ci := 6) (v := .ref ((ado 2) 0)) hx hb hts inX6 hown hT hP 0 rfl rfl 1 (Nat.le_of_ble_eq_true rfl) lk16 (fun _ h => h) rfl dX6_rich_62 ?_
          refine lv_iload_n hx hb dX6_rich_65 rfl (lv_at hl 2 rfl) ?_
          obtain ⟨r66, hc66, hf⟩ := bd_e hf
          refine cl_i_ro (Wd := (wX6 G ad ado f ++ (wX0 G (ado 1) fnow ++ (wX0 G (ado 2) ftrial)))) (Wc := (wX0 G (ado 2) ftrial)) [15, 16, 17, 18, 19, 20, 21, 22, 23, 24, 25] rfl (va_runVN (As := [.int x3]) (rest := [.int r58]) hC (c_X0_worth l G (ado 2) ftrial x3 r66 hc66 _) ⟨va_cnB 1 hts gX6_rich_X0_worth_n210 rfl rfl rfl (hE.2.2 (RX6, 210, yX0_worth, "FeatherShares") (List.mem_of_getElem? (i := 26) rfl)) (hts (.initialized RX0) (by decide +kernel)) (by decide +kernel) ⟨Nat.le_of_ble_eq_true rfl, Nat.le_of_ble_eq_true rfl⟩, hts (.instanceMethod yX0_worth) (by decide +kernel), hts (.selects RX0 yX0_worth yX0_worth) (by decide +kernel)⟩ ⟨Pc0_blind, va_recv hT hP (q0 := 15) (ci := 0) rfl rfl, fun U hU hW => Pc0_at (Wd := (wX0 G (ado 2) ftrial)) hE (hP.subm [15, 16, 17, 18, 19, 20, 21, 22, 23, 24, 25] rfl) (hD.sub [15, 16, 17, 18, 19, 20, 21, 22, 23, 24, 25] (by decide) rfl) hU hW⟩ rfl rfl hl.1 rfl (lv_room (Nat.le_of_ble_eq_true rfl)) dX6_rich_66 ⟨Nat.zero_le _, Nat.zero_le _⟩) hS hA hP hD (fun H locs hP hD hS => ?_)
          refine lv_icmp_le (tgt := 75) hx hb dX6_rich_69 (by decide) (fun hc => ?_) (fun hc => ?_)
          · have hf := if_t hf hc
            refine lv_iinc (v := (x4 + nI 1)) (lv' := [(4, .int (x4 + nI 1)), (0, .ref (ad 0)), (2, .int x2), (3, .int x3)]) hx hb dX6_rich_75 hl (k := 3) rfl (ii_x 1 _) (by decide) rfl (fun ls hl => ?_)
            refine lv_goto (tgt := 46) hx hb dX6_rich_78 (by decide) ?_
            have hK9 := K_of hf hK
            have hK9 := hW46 _ hK9
            exact hK9 _ _ _ hP hD hS (lv_sub hl [1, 2, 3, 0] rfl)
          · have hf := if_f hf hc
            refine lv_iload hx hb dX6_rich_72 (lv_at hl 3 rfl) ?_
            refine lv_istore_n (lv' := [(3, .int x4), (0, .ref (ad 0)), (2, .int x2), (4, .int x4)]) hx hb dX6_rich_74 rfl hl (by decide) rfl (fun ls hl => ?_)
            refine lv_iinc (v := (x4 + nI 1)) (lv' := [(4, .int (x4 + nI 1)), (3, .int x4), (0, .ref (ad 0)), (2, .int x2)]) hx hb dX6_rich_75 hl (k := 3) rfl (ii_x 1 _) (by decide) rfl (fun ls hl => ?_)
            refine lv_goto (tgt := 46) hx hb dX6_rich_78 (by decide) ?_
            have hK9 := K_of hf hK
            have hK9 := hW46 _ hK9
            exact hK9 _ _ _ hP hD hS (lv_sub hl [2, 3, 1, 0] rfl)
      · try dsimp only at hf
        show ∀ (H : Heap) (locs : List Loc) (ls : Array Slot), va_P G.1 vwCl (wX6 G ad ado f ++ (wX0 G (ado 1) fnow ++ (wX0 G (ado 2) ftrial_37))) H → va_D A (wX6 G ad ado f ++ (wX0 G (ado 1) fnow ++ (wX0 G (ado 2) ftrial_37))) → va_S A s.heap H locs → lv_has ls 5 [(0, .ref (ad 0)), (2, .int x2), (3, .int y3_46)] → W p l e ({ frames := 5, cells := 0, slots := 0, locals := 133 }) s m args below meth c H locs 0 0 Q (F0 m 81 ls [])
        intro H locs ls hP hD hS hl
        refine lv_iload_n hx hb dX6_rich_81 rfl (lv_at hl 1 rfl) ?_
        refine lv_if_ne (tgt := 89) hx hb dX6_rich_82 (by decide) (fun hc => ?_) (fun hc => ?_)
        · have hf := if_f hf hc
          refine lv_aload_n hx hb dX6_rich_89 rfl (lv_at hl 0 rfl) ?_
          refine va_get (C := RX6) (T := TX6) (N := 11) (ci := 6) (v := .ref ((ado 2) 0)) hx hb hts inX6 hown hT hP 0 rfl rfl 1 (Nat.le_of_ble_eq_true rfl) lk16 (fun _ h => h) rfl dX6_rich_90 ?_
          refine lv_iload_n hx hb dX6_rich_93 rfl (lv_at hl 2 rfl) ?_
          obtain ⟨r94, hc94, hf⟩ := bd_e hf
          refine cl_i_ro (Wd := (wX6 G ad ado f ++ (wX0 G (ado 1) fnow ++ (wX0 G (ado 2) ftrial_37)))) (Wc := (wX0 G (ado 2) ftrial_37)) [15, 16, 17, 18, 19, 20, 21, 22, 23, 24, 25] rfl (va_runVN (As := [.int y3_46]) (rest := []) hC (c_X0_worth l G (ado 2) ftrial_37 y3_46 r94 hc94 _) ⟨va_cnB 1 hts gX6_rich_X0_worth_n210 rfl rfl rfl (hE.2.2 (RX6, 210, yX0_worth, "FeatherShares") (List.mem_of_getElem? (i := 26) rfl)) (hts (.initialized RX0) (by decide +kernel)) (by decide +kernel) ⟨Nat.le_of_ble_eq_true rfl, Nat.le_of_ble_eq_true rfl⟩, hts (.instanceMethod yX0_worth) (by decide +kernel), hts (.selects RX0 yX0_worth yX0_worth) (by decide +kernel)⟩ ⟨Pc0_blind, va_recv hT hP (q0 := 15) (ci := 0) rfl rfl, fun U hU hW => Pc0_at (Wd := (wX0 G (ado 2) ftrial_37)) hE (hP.subm [15, 16, 17, 18, 19, 20, 21, 22, 23, 24, 25] rfl) (hD.sub [15, 16, 17, 18, 19, 20, 21, 22, 23, 24, 25] (by decide) rfl) hU hW⟩ rfl rfl hl.1 rfl (lv_room (Nat.le_of_ble_eq_true rfl)) dX6_rich_94 ⟨Nat.zero_le _, Nat.zero_le _⟩) hS hA hP hD (fun H locs hP hD hS => ?_)
          have hK9 := K0_of hf hK
          exact hRet r94 ftrial_37 _ _ _ _ hK9 dX6_rich_97 hP hD hS
        · have hf := if_t hf hc
          refine lv_iload_n hx hb dX6_rich_85 rfl (lv_at hl 2 rfl) ?_
          refine lv_goto (tgt := 97) hx hb dX6_rich_86 (by decide) ?_
          have hK9 := K0_of hf hK
          exact hRet y3_46 ftrial_37 _ _ _ _ hK9 dX6_rich_97 hP hD hS
    · have hf := if_t hf hc
      refine lv_iconst (v := (-1 : Int32)) hx hb dX6_rich_19 (ic_m1) ?_
      have hK9 := K0_of hf hK
      exact hRet (-1 : Int32) ftrial _ _ _ _ hK9 dX6_rich_20 hP hD hS
