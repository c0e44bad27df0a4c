noncomputable def p_X6_feed (f : Mem) (ftape : Mem) (x1 : Int32) : Option (Int32 × Mem) :=
  Option.bind (p_X6_isWithin x1 (nI 0) (nI 127)) <| fun r4 =>
  if r4 = 0 then
    (some ((-1 : Int32), ftape))
  else
    (Option.bind (p_X4_append ftape x1) <| fun (r17, ftape_17) =>
     if r17 = 0 then
       (some ((-3 : Int32), ftape_17))
     else
       (some ((ftape_17 0 0), ftape_17)))
set_option maxHeartbeats 4000000 in
set_option maxRecDepth 100000 in
theorem c_X6_feed (l : Launch) (G : Gt) (ad : Nat → Nat) (ado : Nat → Nat → Nat) (f : Mem) (ftape : Mem) (x1 : Int32) (r : Int32) (ftapez : Mem) (hf : p_X6_feed f ftape x1 = some (r, ftapez)) (sz : Nat) : Met l yX6_feed wsX6_feed ({ frames := 2, cells := 0, slots := 0, locals := 34 }) (Pc0 G sz [.ref (ad 0), .int x1] (wX6 G ad ado f ++ (wX4 G (ado 5) ftape))) (Qi0 G (va_A (wX6 G ad ado f ++ (wX4 G (ado 5) ftape)) sz) r (wX6 G ad ado f ++ (wX4 G (ado 5) ftapez))) 0 0 (va_A (wX6 G ad ado f ++ (wX4 G (ado 5) ftape)) sz) := by
  refine metP (Qf := fun A => Qi0 G A r (wX6 G ad ado f ++ (wX4 G (ado 5) ftapez))) cX6_feed 2 (some .int) (by decide) rfl (Nat.le_of_ble_eq_true rfl) ?_
  intro p e s m below meth c A ls hC hr hlocks hin hE hA hsz hP hD hS hl
  generalize hargs : ([.ref (ad 0), .int x1] : List Value).toArray = args at hC ⊢
  obtain ⟨hx, hb, hml, hown, hts⟩ := id hC
  have hT : va_K G.1 vwCl (tyL G) s := hE.1
  have hRet : ∀ (r9 : Int32) (ftape9 : Mem) (H : Heap) (locs : List Loc) (ls : Array Slot) (pc : Nat) (hK9 : (r9, ftape9) = (r, ftapez)) (hdg : decode cX6_feed pc = .ok (.ireturn, 1)), va_P G.1 vwCl (wX6 G ad ado f ++ (wX4 G (ado 5) ftape9)) H → va_D A (wX6 G ad ado f ++ (wX4 G (ado 5) ftape9)) → va_S A s.heap H locs → W p l e ({ frames := 2, cells := 0, slots := 0, locals := 34 }) s m args below meth c H locs 0 0 (MQ below (Qi0 G A r (wX6 G ad ado f ++ (wX4 G (ado 5) ftapez))) args s 0 0 A) (F0 m pc ls [.int r9]) := by
    intro r9 ftape9 H locs ls pc hK9 hdg hP hD hS
    cases hK9
    exact W.iret hx hb hr (fun t ht hW => ⟨⟨r, (), rfl, rfl, by rw [ht]; exact hP, hD⟩, hS.F ht⟩) hS.2.2 hdg hlocks
  generalize MQ below (Qi0 G A r (wX6 G ad ado f ++ (wX4 G (ado 5) ftapez))) args s 0 0 A = Q at hRet ⊢
  have lk30 := hts (.fieldLink RX6 30 "FeatherShares" "tape" "LFeatherShares$Tape;") (by decide +kernel)
  have inX6 : ∀ w ∈ u_ws RX6 TX6 11, w ∈ wsX6_feed := by decide +kernel
  have lk77 := va_Nw.use (A := args) rfl (hE.2.1 (RX6, 77, "FeatherShares$Tape", "length", "I", "FeatherShares") (List.mem_of_getElem? (i := 0) rfl))
  have inX4 : ∀ w ∈ u_ws RX4 TX4 6, w ∈ wsX6_feed := by decide +kernel
  have hl : lv_has ls 2 [(0, .ref (ad 0)), (1, .int x1)] := hl
  have hK0 : (r, ftapez) = (r, ftapez) := rfl
  obtain ⟨res, hres, hK⟩ : ∃ res, p_X6_feed f ftape x1 = some res ∧ res = (r, ftapez) := ⟨_, hf, rfl⟩
  clear hf
  have hf := hres
  clear hres
  unfold p_X6_feed at hf
  refine lv_iload_n hx hb dX6_feed_0 rfl (lv_at hl 1 rfl) ?_
  refine lv_iconst (v := (nI 0)) hx hb dX6_feed_1 (ic_0) ?_
  refine lv_bipush (v := (nI 127)) hx hb dX6_feed_2 (bi_127) ?_
  obtain ⟨r4, hc4, hf⟩ := bd_e hf
  refine cl_z_ro (Wd := (wX6 G ad ado f ++ (wX4 G (ado 5) ftape))) (Wc := ([] : va_W)) [] rfl (va_runS (As := [.int x1, .int (nI 0), .int (nI 127)]) (rest := []) hC (c_X6_isWithin l G x1 (nI 0) (nI 127) r4 hc4 _) (va_cwS 3 hts gX6_feed_X6_isWithin rfl rfl rfl (by decide +kernel) ⟨Nat.le_of_ble_eq_true rfl, Nat.le_of_ble_eq_true rfl⟩) ⟨Pc0_blind, fun U hU hW => Pc0_at (Wd := ([] : va_W)) hE (hP.subm [] rfl) (hD.sub [] (by decide) rfl) hU hW⟩ rfl rfl hl.1 rfl (lv_room (Nat.le_of_ble_eq_true rfl)) dX6_feed_4 ⟨Nat.zero_le _, Nat.zero_le _⟩) hS hA hP hD (fun H locs hn4 hP hD hS => ?_)
  refine lv_if_ne (tgt := 12) hx hb dX6_feed_7 (by decide) (fun hc => ?_) (fun hc => ?_)
  · have hf := if_f hf hc
    refine lv_aload_n hx hb dX6_feed_12 rfl (lv_at hl 0 rfl) ?_
    refine va_get (C := RX6) (T := TX6) (N := 11) (ci := 6) (v := .ref ((ado 5) 0)) hx hb hts inX6 hown hT hP 0 rfl rfl 4 (Nat.le_of_ble_eq_true rfl) lk30 (fun _ h => h) rfl dX6_feed_13 ?_
    refine lv_iload_n hx hb dX6_feed_16 rfl (lv_at hl 1 rfl) ?_
    obtain ⟨⟨r17, ftape_17⟩, hc17, hf⟩ := bd_e hf
    try dsimp only at hf
    refine cl_z_up (Wd := (wX6 G ad ado f ++ (wX4 G (ado 5) ftape))) (Wc := (wX4 G (ado 5) ftape)) (W' := (wX4 G (ado 5) ftape_17)) (W2 := (wX6 G ad ado f ++ (wX4 G (ado 5) ftape_17))) [4, 5] [0, 1, 2, 3] rfl rfl rfl rfl rfl (va_runVN (As := [.int x1]) (rest := []) hC (c_X4_append l G (ado 5) ftape x1 r17 ftape_17 hc17 _) ⟨va_cnB 1 hts gX6_feed_X4_append_n73 rfl rfl rfl (hE.2.2 (RX6, 73, yX4_append, "FeatherShares") (List.mem_of_getElem? (i := 6) rfl)) (hts (.initialized RX4) (by decide +kernel)) (by decide +kernel) ⟨Nat.le_of_ble_eq_true rfl, Nat.le_of_ble_eq_true rfl⟩, hts (.instanceMethod yX4_append) (by decide +kernel), hts (.selects RX4 yX4_append yX4_append) (by decide +kernel)⟩ ⟨Pc0_blind, va_recv hT hP (q0 := 4) (ci := 4) rfl rfl, fun U hU hW => Pc0_at (Wd := (wX4 G (ado 5) ftape)) hE (hP.subm [4, 5] rfl) (hD.sub [4, 5] (by decide) rfl) hU hW⟩ rfl rfl hl.1 rfl (lv_room (Nat.le_of_ble_eq_true rfl)) dX6_feed_17 ⟨Nat.zero_le _, Nat.zero_le _⟩) hS hA hP hD (fun H locs hn17 hP hD hS => ?_)
    refine lv_if_eq (tgt := 33) hx hb dX6_feed_20 (by decide) (fun hc => ?_) (fun hc => ?_)
    · have hf := if_t hf hc
      refine lv_bipush (v := (-3 : Int32)) hx hb dX6_feed_33 (bi_m3) ?_
      have hK9 := K0_of hf hK
      exact hRet (-3 : Int32) ftape_17 _ _ _ _ hK9 dX6_feed_35 hP hD hS
    · have hf := if_f hf hc
      refine lv_aload_n hx hb dX6_feed_23 rfl (lv_at hl 0 rfl) ?_
      refine va_get (C := RX6) (T := TX6) (N := 11) (ci := 6) (v := .ref ((ado 5) 0)) hx hb hts inX6 hown hT hP 0 rfl rfl 4 (Nat.le_of_ble_eq_true rfl) lk30 (fun _ h => h) rfl dX6_feed_24 ?_
      refine va_getN (C := RX4) (T := TX4) (N := 6) (ci := 4) (v := .int (ftape_17 0 0)) hx hb hts inX4 hown hT hP 4 rfl rfl 1 (Nat.le_of_ble_eq_true rfl) lk77 (fun _ h => h) rfl dX6_feed_27 ?_
      refine lv_goto (tgt := 35) hx hb dX6_feed_30 (by decide) ?_
      have hK9 := K0_of hf hK
      exact hRet (ftape_17 0 0) ftape_17 _ _ _ _ hK9 dX6_feed_35 hP hD hS
  · have hf := if_t hf hc
    refine lv_iconst (v := (-1 : Int32)) hx hb dX6_feed_10 (ic_m1) ?_
    have hK9 := K0_of hf hK
    exact hRet (-1 : Int32) ftape _ _ _ _ hK9 dX6_feed_11 hP hD hS
noncomputable def p_X6_end (f : Mem) (ftape : Mem) (x1 : Int32) : Option (Int32 × Mem) :=
  Option.bind (p_X6_isWithin x1 (nI 0) (ftape 0 0)) <| fun r9 =>
  if r9 = 0 then
    (some ((-1 : Int32), ftape))
  else
    (some ((ftape 0 0), (mset 0 0 x1 ftape)))
set_option maxHeartbeats 4000000 in
set_option maxRecDepth 100000 in
theorem c_X6_end (l : Launch) (G : Gt) (ad : Nat → Nat) (ado : Nat → Nat → Nat) (f : Mem) (ftape : Mem) (x1 : Int32) (r : Int32) (ftapez : Mem) (hf : p_X6_end f ftape x1 = some (r, ftapez)) (sz : Nat) : Met l yX6_end wsX6_end ({ frames := 2, cells := 0, slots := 0, locals := 34 }) (Pc0 G sz [.ref (ad 0), .int x1] (wX6 G ad ado f ++ (wX4 G (ado 5) ftape))) (Qi0 G (va_A (wX6 G ad ado f ++ (wX4 G (ado 5) ftape)) sz) r (wX6 G ad ado f ++ (wX4 G (ado 5) ftapez))) 0 0 (va_A (wX6 G ad ado f ++ (wX4 G (ado 5) ftape)) sz) := by
  refine metP (Qf := fun A => Qi0 G A r (wX6 G ad ado f ++ (wX4 G (ado 5) ftapez))) cX6_end 3 (some .int) (by decide) rfl (Nat.le_of_ble_eq_true rfl) ?_
  intro p e s m below meth c A ls hC hr hlocks hin hE hA hsz hP hD hS hl
  generalize hargs : ([.ref (ad 0), .int x1] : List Value).toArray = args at hC ⊢
  obtain ⟨hx, hb, hml, hown, hts⟩ := id hC
  have hT : va_K G.1 vwCl (tyL G) s := hE.1
  have hRet : ∀ (r9 : Int32) (ftape9 : Mem) (H : Heap) (locs : List Loc) (ls : Array Slot) (pc : Nat) (hK9 : (r9, ftape9) = (r, ftapez)) (hdg : decode cX6_end pc = .ok (.ireturn, 1)), va_P G.1 vwCl (wX6 G ad ado f ++ (wX4 G (ado 5) ftape9)) H → va_D A (wX6 G ad ado f ++ (wX4 G (ado 5) ftape9)) → va_S A s.heap H locs → W p l e ({ frames := 2, cells := 0, slots := 0, locals := 34 }) s m args below meth c H locs 0 0 (MQ below (Qi0 G A r (wX6 G ad ado f ++ (wX4 G (ado 5) ftapez))) args s 0 0 A) (F0 m pc ls [.int r9]) := by
    intro r9 ftape9 H locs ls pc hK9 hdg hP hD hS
    cases hK9
    exact W.iret hx hb hr (fun t ht hW => ⟨⟨r, (), rfl, rfl, by rw [ht]; exact hP, hD⟩, hS.F ht⟩) hS.2.2 hdg hlocks
  generalize MQ below (Qi0 G A r (wX6 G ad ado f ++ (wX4 G (ado 5) ftapez))) args s 0 0 A = Q at hRet ⊢
  have lk30 := hts (.fieldLink RX6 30 "FeatherShares" "tape" "LFeatherShares$Tape;") (by decide +kernel)
  have inX6 : ∀ w ∈ u_ws RX6 TX6 11, w ∈ wsX6_end := by decide +kernel
  have lk77 := va_Nw.use (A := args) rfl (hE.2.1 (RX6, 77, "FeatherShares$Tape", "length", "I", "FeatherShares") (List.mem_of_getElem? (i := 0) rfl))
  have inX4 : ∀ w ∈ u_ws RX4 TX4 6, w ∈ wsX6_end := by decide +kernel
  have hl : lv_has ls 3 [(0, .ref (ad 0)), (1, .int x1)] := hl
  have hK0 : (r, ftapez) = (r, ftapez) := rfl
  obtain ⟨res, hres, hK⟩ : ∃ res, p_X6_end f ftape x1 = some res ∧ res = (r, ftapez) := ⟨_, hf, rfl⟩
  clear hf
  have hf := hres
  clear hres
  unfold p_X6_end at hf
  refine lv_iload_n hx hb dX6_end_0 rfl (lv_at hl 1 rfl) ?_
  refine lv_iconst (v := (nI 0)) hx hb dX6_end_1 (ic_0) ?_
  refine lv_aload_n hx hb dX6_end_2 rfl (lv_at hl 0 rfl) ?_
  refine va_get (C := RX6) (T := TX6) (N := 11) (ci := 6) (v := .ref ((ado 5) 0)) hx hb hts inX6 hown hT hP 0 rfl rfl 4 (Nat.le_of_ble_eq_true rfl) lk30 (fun _ h => h) rfl dX6_end_3 ?_
  refine va_getN (C := RX4) (T := TX4) (N := 6) (ci := 4) (v := .int (ftape 0 0)) hx hb hts inX4 hown hT hP 4 rfl rfl 1 (Nat.le_of_ble_eq_true rfl) lk77 (fun _ h => h) rfl dX6_end_6 ?_
  obtain ⟨r9, hc9, hf⟩ := bd_e hf
  refine cl_z_ro (Wd := (wX6 G ad ado f ++ (wX4 G (ado 5) ftape))) (Wc := ([] : va_W)) [] rfl (va_runS (As := [.int x1, .int (nI 0), .int (ftape 0 0)]) (rest := []) hC (c_X6_isWithin l G x1 (nI 0) (ftape 0 0) r9 hc9 _) (va_cwS 3 hts gX6_end_X6_isWithin rfl rfl rfl (by decide +kernel) ⟨Nat.le_of_ble_eq_true rfl, Nat.le_of_ble_eq_true rfl⟩) ⟨Pc0_blind, fun U hU hW => Pc0_at (Wd := ([] : va_W)) hE (hP.subm [] rfl) (hD.sub [] (by decide) rfl) hU hW⟩ rfl rfl hl.1 rfl (lv_room (Nat.le_of_ble_eq_true rfl)) dX6_end_9 ⟨Nat.zero_le _, Nat.zero_le _⟩) hS hA hP hD (fun H locs hn9 hP hD hS => ?_)
  refine lv_if_ne (tgt := 17) hx hb dX6_end_12 (by decide) (fun hc => ?_) (fun hc => ?_)
  · have hf := if_f hf hc
    refine lv_aload_n hx hb dX6_end_17 rfl (lv_at hl 0 rfl) ?_
    refine va_get (C := RX6) (T := TX6) (N := 11) (ci := 6) (v := .ref ((ado 5) 0)) hx hb hts inX6 hown hT hP 0 rfl rfl 4 (Nat.le_of_ble_eq_true rfl) lk30 (fun _ h => h) rfl dX6_end_18 ?_
    refine va_getN (C := RX4) (T := TX4) (N := 6) (ci := 4) (v := .int (ftape 0 0)) hx hb hts inX4 hown hT hP 4 rfl rfl 1 (Nat.le_of_ble_eq_true rfl) lk77 (fun _ h => h) rfl dX6_end_21 ?_
    refine lv_istore_n (lv' := [(2, .int (ftape 0 0)), (0, .ref (ad 0)), (1, .int x1)]) hx hb dX6_end_24 rfl hl (by decide) rfl (fun ls hl => ?_)
    refine lv_aload_n hx hb dX6_end_25 rfl (lv_at hl 1 rfl) ?_
    refine va_get (C := RX6) (T := TX6) (N := 11) (ci := 6) (v := .ref ((ado 5) 0)) hx hb hts inX6 hown hT hP 0 rfl rfl 4 (Nat.le_of_ble_eq_true rfl) lk30 (fun _ h => h) rfl dX6_end_26 ?_
    refine lv_iload_n hx hb dX6_end_29 rfl (lv_at hl 2 rfl) ?_
    refine va_putN (C := RX4) (T := TX4) (N := 6) (ci := 4) (ty := .int) (v := .int x1) hx hb hts inX4 tyX4 tyX4_ok nmX4 hown hT hP hD hS 4 rfl rfl 1 (Nat.le_of_ble_eq_true rfl) lk77 (fun _ h => h) rfl (by decide +kernel) rfl rfl (Nat.le_of_ble_eq_true rfl) dX6_end_30 (fun H locs hP hD hS => ?_)
    have hP : va_P G.1 vwCl (wX6 G ad ado f ++ (wX4 G (ado 5) (mset 0 0 x1 ftape))) H := hP
    have hD : va_D A (wX6 G ad ado f ++ (wX4 G (ado 5) (mset 0 0 x1 ftape))) := hD
    refine lv_iload_n hx hb dX6_end_33 rfl (lv_at hl 0 rfl) ?_
    have hK9 := K0_of hf hK
    exact hRet (ftape 0 0) (mset 0 0 x1 ftape) _ _ _ _ hK9 dX6_end_34 hP hD hS
  · have hf := if_t hf hc
    refine lv_iconst (v := (-1 : Int32)) hx hb dX6_end_15 (ic_m1) ?_
    have hK9 := K0_of hf hK
    exact hRet (-1 : Int32) ftape _ _ _ _ hK9 dX6_end_16 hP hD hS
noncomputable def p_X6_fault (f : Mem) (freader : Mem) : Option (Int32) :=
  some (freader 0 1)
set_option maxHeartbeats 4000000 in
set_option maxRecDepth 100000 in
theorem c_X6_fault (l : Launch) (G : Gt) (ad : Nat → Nat) (ado : Nat → Nat → Nat) (f : Mem) (freader : Mem) (r : Int32) (hf : p_X6_fault f freader = some r) (sz : Nat) : Met l yX6_fault wsX6_fault ({ frames := 1, cells := 0, slots := 0, locals := 12 }) (Pc0 G sz [.ref (ad 0)] (wX6 G ad ado f ++ (wX5 G (ado 6) ((ado 7) 0) freader))) (Qi0 G (va_A (wX6 G ad ado f ++ (wX5 G (ado 6) ((ado 7) 0) freader)) sz) r (wX6 G ad ado f ++ (wX5 G (ado 6) ((ado 7) 0) freader))) 0 0 (va_A (wX6 G ad ado f ++ (wX5 G (ado 6) ((ado 7) 0) freader)) sz) := by
  refine metP (Qf := fun A => Qi0 G A r (wX6 G ad ado f ++ (wX5 G (ado 6) ((ado 7) 0) freader))) cX6_fault 1 (some .int) (by decide) rfl (Nat.le_of_ble_eq_true rfl) ?_
  intro p e s m below meth c A ls hC hr hlocks hin hE hA hsz hP hD hS hl
  generalize hargs : ([.ref (ad 0)] : List Value).toArray = args at hC ⊢
  obtain ⟨hx, hb, hml, hown, hts⟩ := id hC
  have hT : va_K G.1 vwCl (tyL G) s := hE.1
  have hRet : ∀ (r9 : Int32) (H : Heap) (locs : List Loc) (ls : Array Slot) (pc : Nat) (hK9 : r9 = r) (hdg : decode cX6_fault pc = .ok (.ireturn, 1)), va_P G.1 vwCl (wX6 G ad ado f ++ (wX5 G (ado 6) ((ado 7) 0) freader)) H → va_D A (wX6 G ad ado f ++ (wX5 G (ado 6) ((ado 7) 0) freader)) → va_S A s.heap H locs → W p l e ({ frames := 1, cells := 0, slots := 0, locals := 12 }) s m args below meth c H locs 0 0 (MQ below (Qi0 G A r (wX6 G ad ado f ++ (wX5 G (ado 6) ((ado 7) 0) freader))) args s 0 0 A) (F0 m pc ls [.int r9]) := by
    intro r9 H locs ls pc hK9 hdg hP hD hS
    cases hK9
    exact W.iret hx hb hr (fun t ht hW => ⟨⟨r, (), rfl, rfl, by rw [ht]; exact hP, hD⟩, hS.F ht⟩) hS.2.2 hdg hlocks
  generalize MQ below (Qi0 G A r (wX6 G ad ado f ++ (wX5 G (ado 6) ((ado 7) 0) freader))) args s 0 0 A = Q at hRet ⊢
  have lk37 := hts (.fieldLink RX6 37 "FeatherShares" "reader" "LFeatherShares$TextReader;") (by decide +kernel)
  have inX6 : ∀ w ∈ u_ws RX6 TX6 11, w ∈ wsX6_fault := by decide +kernel
  have lk84 := va_Nw.use (A := args) rfl (hE.2.1 (RX6, 84, "FeatherShares$TextReader", "faultFound", "I", "FeatherShares") (List.mem_of_getElem? (i := 1) rfl))
  have inX5 : ∀ w ∈ u_ws RX5 TX5 7, w ∈ wsX6_fault := by decide +kernel
  have hl : lv_has ls 1 [(0, .ref (ad 0))] := hl
  have hK0 : r = r := rfl
  obtain ⟨res, hres, hK⟩ : ∃ res, p_X6_fault f freader = some res ∧ res = r := ⟨_, hf, rfl⟩
  clear hf
  have hf := hres
  clear hres
  unfold p_X6_fault at hf
  refine lv_aload_n hx hb dX6_fault_0 rfl (lv_at hl 0 rfl) ?_
  refine va_get (C := RX6) (T := TX6) (N := 11) (ci := 6) (v := .ref ((ado 6) 0)) hx hb hts inX6 hown hT hP 0 rfl rfl 5 (Nat.le_of_ble_eq_true rfl) lk37 (fun _ h => h) rfl dX6_fault_1 ?_
  refine va_getN (C := RX5) (T := TX5) (N := 7) (ci := 5) (v := .int (freader 0 1)) hx hb hts inX5 hown hT hP 4 rfl rfl 2 (Nat.le_of_ble_eq_true rfl) lk84 (fun _ h => h) rfl dX6_fault_4 ?_
  have hK9 := K0_of hf hK
  exact hRet (freader 0 1) _ _ _ _ hK9 dX6_fault_7 hP hD hS
noncomputable def p_X6_sumOf_L10 (n0 : Nat) (g0 : Nat → Int32) (x3 : Int32) (z : Int32 × Int32) : Option ((Int32 × Int32) ⊕ Int32) :=
  match z with
  | (x1, x4) =>
    if x3 ≤ x4 then
      (some (Sum.inr x1))
    else
      (gd (inb x4 n0) <|
       some (Sum.inl ((x1 + (g0 x4.toNatClampNeg)), (x4 + nI 1))))
noncomputable def p_X6_sumOf (n0 : Nat) (g0 : Nat → Int32) : Option (Int32) :=
  Option.bind (lp (p_X6_sumOf_L10 n0 g0 (nI n0)) ((nI 0), (nI 0))) <| fun y1_10 =>
  some y1_10
set_option maxHeartbeats 4000000 in
set_option maxRecDepth 100000 in
theorem c_X6_sumOf (l : Launch) (G : Gt) (aq0 : Nat) (n0 : Nat) (g0 : Nat → Int32) (r : Int32) (hf : p_X6_sumOf n0 g0 = some r) (sz : Nat) : Met l yX6_sumOf wsX6_sumOf ({ frames := 1, cells := 0, slots := 0, locals := 12 }) (Pc0 G sz [.ref aq0] (wRow G aq0 n0 g0)) (Qi0 G (va_A (wRow G aq0 n0 g0) sz) r (wRow G aq0 n0 g0)) 0 0 (va_A (wRow G aq0 n0 g0) sz) := by
  refine metP (Qf := fun A => Qi0 G A r (wRow G aq0 n0 g0)) cX6_sumOf 6 (some .int) (by decide) rfl (Nat.le_of_ble_eq_true rfl) ?_
  intro p e s m below meth c A ls hC hr hlocks hin hE hA hsz hP hD hS hl
  generalize hargs : ([.ref aq0] : List Value).toArray = args at hC ⊢
  obtain ⟨hx, hb, hml, hown, hts⟩ := id hC
  have hT : va_K G.1 vwCl (tyL G) s := hE.1
  have hRet : ∀ (r9 : Int32) (H : Heap) (locs : List Loc) (ls : Array Slot) (pc : Nat) (hK9 : r9 = r) (hdg : decode cX6_sumOf pc = .ok (.ireturn, 1)), va_P G.1 vwCl (wRow G aq0 n0 g0) H → va_D A (wRow G aq0 n0 g0) → va_S A s.heap H locs → W p l e ({ frames := 1, cells := 0, slots := 0, locals := 12 }) s m args below meth c H locs 0 0 (MQ below (Qi0 G A r (wRow G aq0 n0 g0)) args s 0 0 A) (F0 m pc ls [.int r9]) := by
    intro r9 H locs ls pc hK9 hdg hP hD hS
    cases hK9
    exact W.iret hx hb hr (fun t ht hW => ⟨⟨r, (), rfl, rfl, by rw [ht]; exact hP, hD⟩, hS.F ht⟩) hS.2.2 hdg hlocks
  generalize MQ below (Qi0 G A r (wRow G aq0 n0 g0)) args s 0 0 A = Q at hRet ⊢
  have hl : lv_has ls 6 [(0, .ref aq0)] := hl
  have hK0 : r = r := rfl
  obtain ⟨res, hres, hK⟩ : ∃ res, p_X6_sumOf n0 g0 = some res ∧ res = r := ⟨_, hf, rfl⟩
  clear hf
  have hf := hres
  clear hres
  unfold p_X6_sumOf at hf
  refine lv_iconst (v := (nI 0)) hx hb dX6_sumOf_0 (ic_0) ?_
  refine lv_istore_n (lv' := [(1, .int (nI 0)), (0, .ref aq0)]) hx hb dX6_sumOf_1 rfl hl (by decide) rfl (fun ls hl => ?_)
  refine lv_aload_n hx hb dX6_sumOf_2 rfl (lv_at hl 1 rfl) ?_
  refine lv_astore_n (lv' := [(2, .ref aq0), (1, .int (nI 0)), (0, .ref aq0)]) hx hb dX6_sumOf_3 rfl hl (by decide) rfl (fun ls hl => ?_)
  refine lv_aload_n hx hb dX6_sumOf_4 rfl (lv_at hl 0 rfl) ?_
  refine va_alen (v := (nI n0)) hx hb hT hP 0 0 rfl rfl rfl dX6_sumOf_5 ?_
  refine lv_istore_n (lv' := [(3, .int (nI n0)), (2, .ref aq0), (1, .int (nI 0)), (0, .ref aq0)]) hx hb dX6_sumOf_6 rfl hl (by decide) rfl (fun ls hl => ?_)
  refine lv_iconst (v := (nI 0)) hx hb dX6_sumOf_7 (ic_0) ?_
  refine lv_istore (lv' := [(4, .int (nI 0)), (3, .int (nI n0)), (2, .ref aq0), (1, .int (nI 0)), (0, .ref aq0)]) hx hb dX6_sumOf_8 hl (by decide) rfl (fun ls hl => ?_)
  obtain ⟨y1_10, hlp, hf⟩ := bd_e hf
  refine lp_W1 (p_X6_sumOf_L10 n0 g0 (nI n0)) (fun z => match z with | (x1, x4) => ∀ (H : Heap) (locs : List Loc) (ls : Array Slot), va_P G.1 vwCl (wRow G aq0 n0 g0) H → va_D A (wRow G aq0 n0 g0) → va_S A s.heap H locs → lv_has ls 6 [(1, .int x1), (2, .ref aq0), (3, .int (nI n0)), (4, .int x4)] → W p l e ({ frames := 1, cells := 0, slots := 0, locals := 12 }) s m args below meth c H locs 0 0 Q (F0 m 10 ls [])) (fun (y1_10 : Int32) => ∀ (H : Heap) (locs : List Loc) (ls : Array Slot), va_P G.1 vwCl (wRow G aq0 n0 g0) H → va_D A (wRow G aq0 n0 g0) → va_S A s.heap H locs → lv_has ls 6 [(1, .int y1_10)] → W p l e ({ frames := 1, cells := 0, slots := 0, locals := 12 }) s m args below meth c H locs 0 0 Q (F0 m 33 ls [])) ?_ hlp ?_ _ _ _ hP hD hS (lv_sub hl [3, 2, 1, 0] rfl)
  · clear hlp hf hK hP hD hS hl
    generalize (nI n0) = x3
    intro K10 hW10 hX10 
    rintro ⟨x1, x4⟩ res hf hK H locs ls hP hD hS hl
    unfold p_X6_sumOf_L10 at hf
    dsimp only at hf
    refine lv_iload hx hb dX6_sumOf_10 (lv_at hl 3 rfl) ?_
    refine lv_iload_n hx hb dX6_sumOf_12 rfl (lv_at hl 2 rfl) ?_
    refine lv_icmp_ge (tgt := 33) hx hb dX6_sumOf_13 (by decide) (fun hc => ?_) (fun hc => ?_)
    · have hf := if_t hf hc
      have hK9 := K_of hf hK
      have hK9 := hX10 _ hK9
      exact hK9 _ _ _ hP hD hS (lv_sub hl [0] rfl)
    · have hf := if_f hf hc
      refine lv_aload_n hx hb dX6_sumOf_16 rfl (lv_at hl 1 rfl) ?_
      refine lv_iload hx hb dX6_sumOf_17 (lv_at hl 3 rfl) ?_
      obtain ⟨hg, hf⟩ := gd_e hf
      refine va_iald (f := g0) hx hb hT hP 0 0 rfl rfl (inb_e hg) dX6_sumOf_19 ?_
      refine lv_istore (lv' := [(5, .int (g0 x4.toNatClampNeg)), (1, .int x1), (2, .ref aq0), (3, .int x3), (4, .int x4)]) hx hb dX6_sumOf_20 hl (by decide) rfl (fun ls hl => ?_)
      refine lv_iload_n hx hb dX6_sumOf_22 rfl (lv_at hl 1 rfl) ?_
      refine lv_iload hx hb dX6_sumOf_23 (lv_at hl 0 rfl) ?_
      refine lv_iadd hx hb dX6_sumOf_25 ?_
      refine lv_istore_n (lv' := [(1, .int (x1 + (g0 x4.toNatClampNeg))), (5, .int (g0 x4.toNatClampNeg)), (2, .ref aq0), (3, .int x3), (4, .int x4)]) hx hb dX6_sumOf_26 rfl hl (by decide) rfl (fun ls hl => ?_)
      refine lv_iinc (v := (x4 + nI 1)) (lv' := [(4, .int (x4 + nI 1)), (1, .int (x1 + (g0 x4.toNatClampNeg))), (5, .int (g0 x4.toNatClampNeg)), (2, .ref aq0), (3, .int x3)]) hx hb dX6_sumOf_27 hl (k := 4) rfl (ii_x 1 _) (by decide) rfl (fun ls hl => ?_)
      refine lv_goto (tgt := 10) hx hb dX6_sumOf_30 (by decide) ?_
      have hK9 := K_of hf hK
      have hK9 := hW10 _ hK9
      exact hK9 _ _ _ hP hD hS (lv_sub hl [1, 3, 4, 0] rfl)
  · try dsimp only at hf
    show ∀ (H : Heap) (locs : List Loc) (ls : Array Slot), va_P G.1 vwCl (wRow G aq0 n0 g0) H → va_D A (wRow G aq0 n0 g0) → va_S A s.heap H locs → lv_has ls 6 [(1, .int y1_10)] → W p l e ({ frames := 1, cells := 0, slots := 0, locals := 12 }) s m args below meth c H locs 0 0 Q (F0 m 33 ls [])
    intro H locs ls hP hD hS hl
    refine lv_iload_n hx hb dX6_sumOf_33 rfl (lv_at hl 0 rfl) ?_
    have hK9 := K0_of hf hK
    exact hRet y1_10 _ _ _ _ hK9 dX6_sumOf_34 hP hD hS
noncomputable def p_X6_rule (f : Mem) (fnow : Mem) (x1 : Int32) : Option (Int32) :=
  if x1 = (nI 0) then
    (some (fnow 0 0))
  else if x1 = (nI 1) then
    (some (fnow 0 1))
  else if x1 = (nI 2) then
    (some (fnow 0 2))
  else if x1 = (nI 3) then
    (Option.bind (p_X6_sumOf 5 (fnow 5)) <| fun r71 =>
     some r71)
  else if x1 = (nI 4) then
    (Option.bind (p_X6_sumOf 5 (fnow 6)) <| fun r82 =>
     some r82)
  else if x1 = (nI 5) then
    (Option.bind (p_X0_bareGeese fnow) <| fun r90 =>
     some r90)
  else
    (some (-1 : Int32))
set_option maxHeartbeats 4000000 in
set_option maxRecDepth 100000 in
theorem c_X6_rule (l : Launch) (G : Gt) (ad : Nat → Nat) (ado : Nat → Nat → Nat) (f : Mem) (fnow : Mem) (x1 : Int32) (r : Int32) (hf : p_X6_rule f fnow x1 = some r) (sz : Nat) : Met l yX6_rule wsX6_rule ({ frames := 4, cells := 0, slots := 0, locals := 79 }) (Pc0 G sz [.ref (ad 0), .int x1] (wX6 G ad ado f ++ (wX0 G (ado 1) fnow))) (Qi0 G (va_A (wX6 G ad ado f ++ (wX0 G (ado 1) fnow)) sz) r (wX6 G ad ado f ++ (wX0 G (ado 1) fnow))) 0 0 (va_A (wX6 G ad ado f ++ (wX0 G (ado 1) fnow)) sz) := by
  refine metP (Qf := fun A => Qi0 G A r (wX6 G ad ado f ++ (wX0 G (ado 1) fnow))) cX6_rule 2 (some .int) (by decide) rfl (Nat.le_of_ble_eq_true rfl) ?_
  intro p e s m below meth c A ls hC hr hlocks hin hE hA hsz hP hD hS hl
  generalize hargs : ([.ref (ad 0), .int x1] : List Value).toArray = args at hC ⊢
  obtain ⟨hx, hb, hml, hown, hts⟩ := id hC
  have hT : va_K G.1 vwCl (tyL G) s := hE.1
  have hRet : ∀ (r9 : Int32) (H : Heap) (locs : List Loc) (ls : Array Slot) (pc : Nat) (hK9 : r9 = r) (hdg : decode cX6_rule pc = .ok (.ireturn, 1)), va_P G.1 vwCl (wX6 G ad ado f ++ (wX0 G (ado 1) fnow)) H → va_D A (wX6 G ad ado f ++ (wX0 G (ado 1) fnow)) → va_S A s.heap H locs → W p l e ({ frames := 4, cells := 0, slots := 0, locals := 79 }) s m args below meth c H locs 0 0 (MQ below (Qi0 G A r (wX6 G ad ado f ++ (wX0 G (ado 1) fnow))) args s 0 0 A) (F0 m pc ls [.int r9]) := by
    intro r9 H locs ls pc hK9 hdg hP hD hS
    cases hK9
    exact W.iret hx hb hr (fun t ht hW => ⟨⟨r, (), rfl, rfl, by rw [ht]; exact hP, hD⟩, hS.F ht⟩) hS.2.2 hdg hlocks
  generalize MQ below (Qi0 G A r (wX6 G ad ado f ++ (wX0 G (ado 1) fnow))) args s 0 0 A = Q at hRet ⊢
  have lk12 := hts (.fieldLink RX6 12 "FeatherShares" "now" "LFeatherShares$Flock;") (by decide +kernel)
  have inX6 : ∀ w ∈ u_ws RX6 TX6 11, w ∈ wsX6_rule := by decide +kernel
  have lk103 := va_Nw.use (A := args) rfl (hE.2.1 (RX6, 103, "FeatherShares$Flock", "geese", "I", "FeatherShares") (List.mem_of_getElem? (i := 6) rfl))
  have inX0 : ∀ w ∈ u_ws RX0 TX0 13, w ∈ wsX6_rule := by decide +kernel
  have lk106 := va_Nw.use (A := args) rfl (hE.2.1 (RX6, 106, "FeatherShares$Flock", "week", "I", "FeatherShares") (List.mem_of_getElem? (i := 7) rfl))
  have lk109 := va_Nw.use (A := args) rfl (hE.2.1 (RX6, 109, "FeatherShares$Flock", "trades", "I", "FeatherShares") (List.mem_of_getElem? (i := 8) rfl))
  have lk112 := va_Nw.use (A := args) rfl (hE.2.1 (RX6, 112, "FeatherShares$Flock", "money", "[I", "FeatherShares") (List.mem_of_getElem? (i := 9) rfl))
  have lk119 := va_Nw.use (A := args) rfl (hE.2.1 (RX6, 119, "FeatherShares$Flock", "eggsHad", "[I", "FeatherShares") (List.mem_of_getElem? (i := 10) rfl))
  have hl : lv_has ls 2 [(0, .ref (ad 0)), (1, .int x1)] := hl
  have hK0 : r = r := rfl
  obtain ⟨res, hres, hK⟩ : ∃ res, p_X6_rule f fnow x1 = some res ∧ res = r := ⟨_, hf, rfl⟩
  clear hf
  have hf := hres
  clear hres
  unfold p_X6_rule at hf
  refine lv_iload_n hx hb dX6_rule_0 rfl (lv_at hl 1 rfl) ?_
  by_cases hs0 : x1 = (nI 0)
  · have hf := if_t hf hs0
    refine lv_tableIn (tgt := 40) hx hb dX6_rule_1 (by rw [hs0]; decide) (by rw [hs0]; decide) (by rw [hs0]; rfl) (by decide) ?_
    refine lv_aload_n hx hb dX6_rule_40 rfl (lv_at hl 0 rfl) ?_
    refine va_get (C := RX6) (T := TX6) (N := 11) (ci := 6) (v := .ref ((ado 1) 0)) hx hb hts inX6 hown hT hP 0 rfl rfl 0 (Nat.le_of_ble_eq_true rfl) lk12 (fun _ h => h) rfl dX6_rule_41 ?_
    refine va_getN (C := RX0) (T := TX0) (N := 13) (ci := 0) (v := .int (fnow 0 0)) hx hb hts inX0 hown hT hP 4 rfl rfl 0 (Nat.le_of_ble_eq_true rfl) lk103 (fun _ h => h) rfl dX6_rule_44 ?_
    have hK9 := K0_of hf hK
    exact hRet (fnow 0 0) _ _ _ _ hK9 dX6_rule_47 hP hD hS
  have hf := if_f hf hs0
  by_cases hs1 : x1 = (nI 1)
  · have hf := if_t hf hs1
    refine lv_tableIn (tgt := 48) hx hb dX6_rule_1 (by rw [hs1]; decide) (by rw [hs1]; decide) (by rw [hs1]; rfl) (by decide) ?_
    refine lv_aload_n hx hb dX6_rule_48 rfl (lv_at hl 0 rfl) ?_
    refine va_get (C := RX6) (T := TX6) (N := 11) (ci := 6) (v := .ref ((ado 1) 0)) hx hb hts inX6 hown hT hP 0 rfl rfl 0 (Nat.le_of_ble_eq_true rfl) lk12 (fun _ h => h) rfl dX6_rule_49 ?_
    refine va_getN (C := RX0) (T := TX0) (N := 13) (ci := 0) (v := .int (fnow 0 1)) hx hb hts inX0 hown hT hP 4 rfl rfl 1 (Nat.le_of_ble_eq_true rfl) lk106 (fun _ h => h) rfl dX6_rule_52 ?_
    have hK9 := K0_of hf hK
    exact hRet (fnow 0 1) _ _ _ _ hK9 dX6_rule_55 hP hD hS
  have hf := if_f hf hs1
  by_cases hs2 : x1 = (nI 2)
  · have hf := if_t hf hs2
    refine lv_tableIn (tgt := 56) hx hb dX6_rule_1 (by rw [hs2]; decide) (by rw [hs2]; decide) (by rw [hs2]; rfl) (by decide) ?_
    refine lv_aload_n hx hb dX6_rule_56 rfl (lv_at hl 0 rfl) ?_
    refine va_get (C := RX6) (T := TX6) (N := 11) (ci := 6) (v := .ref ((ado 1) 0)) hx hb hts inX6 hown hT hP 0 rfl rfl 0 (Nat.le_of_ble_eq_true rfl) lk12 (fun _ h => h) rfl dX6_rule_57 ?_
    refine va_getN (C := RX0) (T := TX0) (N := 13) (ci := 0) (v := .int (fnow 0 2)) hx hb hts inX0 hown hT hP 4 rfl rfl 2 (Nat.le_of_ble_eq_true rfl) lk109 (fun _ h => h) rfl dX6_rule_60 ?_
    have hK9 := K0_of hf hK
    exact hRet (fnow 0 2) _ _ _ _ hK9 dX6_rule_63 hP hD hS
  have hf := if_f hf hs2
  by_cases hs3 : x1 = (nI 3)
  · have hf := if_t hf hs3
    refine lv_tableIn (tgt := 64) hx hb dX6_rule_1 (by rw [hs3]; decide) (by rw [hs3]; decide) (by rw [hs3]; rfl) (by decide) ?_
    refine lv_aload_n hx hb dX6_rule_64 rfl (lv_at hl 0 rfl) ?_
    refine va_get (C := RX6) (T := TX6) (N := 11) (ci := 6) (v := .ref ((ado 1) 0)) hx hb hts inX6 hown hT hP 0 rfl rfl 0 (Nat.le_of_ble_eq_true rfl) lk12 (fun _ h => h) rfl dX6_rule_65 ?_
    refine va_getN (C := RX0) (T := TX0) (N := 13) (ci := 0) (v := .ref ((ado 1) 5)) hx hb hts inX0 hown hT hP 4 rfl rfl 7 (Nat.le_of_ble_eq_true rfl) lk112 (fun _ h => h) rfl dX6_rule_68 ?_
    obtain ⟨r71, hc71, hf⟩ := bd_e hf
    refine cl_i_ro (Wd := (wX6 G ad ado f ++ (wX0 G (ado 1) fnow))) (Wc := (wRow G ((ado 1) 5) 5 (fnow 5))) [9] rfl (va_runS (As := [.ref ((ado 1) 5)]) (rest := []) hC (c_X6_sumOf l G ((ado 1) 5) 5 (fnow 5) r71 hc71 _) (va_cwS 1 hts gX6_rule_X6_sumOf rfl rfl rfl (by decide +kernel) ⟨Nat.le_of_ble_eq_true rfl, Nat.le_of_ble_eq_true rfl⟩) ⟨Pc0_blind, fun U hU hW => Pc0_at (Wd := (wRow G ((ado 1) 5) 5 (fnow 5))) hE (hP.subm [9] rfl) (hD.sub [9] (by decide) rfl) hU hW⟩ rfl rfl hl.1 rfl (lv_room (Nat.le_of_ble_eq_true rfl)) dX6_rule_71 ⟨Nat.zero_le _, Nat.zero_le _⟩) hS hA hP hD (fun H locs hP hD hS => ?_)
    have hK9 := K0_of hf hK
    exact hRet r71 _ _ _ _ hK9 dX6_rule_74 hP hD hS
  have hf := if_f hf hs3
  by_cases hs4 : x1 = (nI 4)
  · have hf := if_t hf hs4
    refine lv_tableIn (tgt := 75) hx hb dX6_rule_1 (by rw [hs4]; decide) (by rw [hs4]; decide) (by rw [hs4]; rfl) (by decide) ?_
    refine lv_aload_n hx hb dX6_rule_75 rfl (lv_at hl 0 rfl) ?_
    refine va_get (C := RX6) (T := TX6) (N := 11) (ci := 6) (v := .ref ((ado 1) 0)) hx hb hts inX6 hown hT hP 0 rfl rfl 0 (Nat.le_of_ble_eq_true rfl) lk12 (fun _ h => h) rfl dX6_rule_76 ?_
    refine va_getN (C := RX0) (T := TX0) (N := 13) (ci := 0) (v := .ref ((ado 1) 6)) hx hb hts inX0 hown hT hP 4 rfl rfl 8 (Nat.le_of_ble_eq_true rfl) lk119 (fun _ h => h) rfl dX6_rule_79 ?_
    obtain ⟨r82, hc82, hf⟩ := bd_e hf
    refine cl_i_ro (Wd := (wX6 G ad ado f ++ (wX0 G (ado 1) fnow))) (Wc := (wRow G ((ado 1) 6) 5 (fnow 6))) [10] rfl (va_runS (As := [.ref ((ado 1) 6)]) (rest := []) hC (c_X6_sumOf l G ((ado 1) 6) 5 (fnow 6) r82 hc82 _) (va_cwS 1 hts gX6_rule_X6_sumOf rfl rfl rfl (by decide +kernel) ⟨Nat.le_of_ble_eq_true rfl, Nat.le_of_ble_eq_true rfl⟩) ⟨Pc0_blind, fun U hU hW => Pc0_at (Wd := (wRow G ((ado 1) 6) 5 (fnow 6))) hE (hP.subm [10] rfl) (hD.sub [10] (by decide) rfl) hU hW⟩ rfl rfl hl.1 rfl (lv_room (Nat.le_of_ble_eq_true rfl)) dX6_rule_82 ⟨Nat.zero_le _, Nat.zero_le _⟩) hS hA hP hD (fun H locs hP hD hS => ?_)
    have hK9 := K0_of hf hK
    exact hRet r82 _ _ _ _ hK9 dX6_rule_85 hP hD hS
  have hf := if_f hf hs4
  by_cases hs5 : x1 = (nI 5)
  · have hf := if_t hf hs5
    refine lv_tableIn (tgt := 86) hx hb dX6_rule_1 (by rw [hs5]; decide) (by rw [hs5]; decide) (by rw [hs5]; rfl) (by decide) ?_
    refine lv_aload_n hx hb dX6_rule_86 rfl (lv_at hl 0 rfl) ?_
    refine va_get (C := RX6) (T := TX6) (N := 11) (ci := 6) (v := .ref ((ado 1) 0)) hx hb hts inX6 hown hT hP 0 rfl rfl 0 (Nat.le_of_ble_eq_true rfl) lk12 (fun _ h => h) rfl dX6_rule_87 ?_
    obtain ⟨r90, hc90, hf⟩ := bd_e hf
    refine cl_i_ro (Wd := (wX6 G ad ado f ++ (wX0 G (ado 1) fnow))) (Wc := (wX0 G (ado 1) fnow)) [4, 5, 6, 7, 8, 9, 10, 11, 12, 13, 14] rfl (va_runVN (As := []) (rest := []) hC (c_X0_bareGeese l G (ado 1) fnow r90 hc90 _) ⟨va_cnB 0 hts gX6_rule_X0_bareGeese_n122 rfl rfl rfl (hE.2.2 (RX6, 122, yX0_bareGeese, "FeatherShares") (List.mem_of_getElem? (i := 9) rfl)) (hts (.initialized RX0) (by decide +kernel)) (by decide +kernel) ⟨Nat.le_of_ble_eq_true rfl, Nat.le_of_ble_eq_true rfl⟩, hts (.instanceMethod yX0_bareGeese) (by decide +kernel), hts (.selects RX0 yX0_bareGeese yX0_bareGeese) (by decide +kernel)⟩ ⟨Pc0_blind, va_recv hT hP (q0 := 4) (ci := 0) rfl rfl, fun U hU hW => Pc0_at (Wd := (wX0 G (ado 1) fnow)) hE (hP.subm [4, 5, 6, 7, 8, 9, 10, 11, 12, 13, 14] rfl) (hD.sub [4, 5, 6, 7, 8, 9, 10, 11, 12, 13, 14] (by decide) rfl) hU hW⟩ rfl rfl hl.1 rfl (lv_room (Nat.le_of_ble_eq_true rfl)) dX6_rule_90 ⟨Nat.zero_le _, Nat.zero_le _⟩) hS hA hP hD (fun H locs hP hD hS => ?_)
    have hK9 := K0_of hf hK
    exact hRet r90 _ _ _ _ hK9 dX6_rule_93 hP hD hS
  have hf := if_f hf hs5
  have hout : x1.toInt < 0 ∨ 5 < x1.toInt := by
    have t0 := ne_int hs0 (by decide)
    have t1 := ne_int hs1 (by decide)
    have t2 := ne_int hs2 (by decide)
    have t3 := ne_int hs3 (by decide)
    have t4 := ne_int hs4 (by decide)
    have t5 := ne_int hs5 (by decide)
    omega
  refine lv_tableOut (tgt := 94) hx hb dX6_rule_1 hout (by decide) ?_
  refine lv_iconst (v := (-1 : Int32)) hx hb dX6_rule_94 (ic_m1) ?_
  have hK9 := K0_of hf hK
  exact hRet (-1 : Int32) _ _ _ _ hK9 dX6_rule_95 hP hD hS
noncomputable def p_X6_goose (f : Mem) (fnow : Mem) (x1 : Int32) (x2 : Int32) : Option (Int32) :=
  Option.bind (p_X0_hasGoose fnow x1) <| fun r5 =>
  if r5 = 0 then
    (some (-1 : Int32))
  else
    (if x2 = (nI 0) then
       (gd (inb x1 3) <|
        some (fnow 1 x1.toNatClampNeg))
     else if x2 = (nI 1) then
       (gd (inb x1 3) <|
        some (fnow 2 x1.toNatClampNeg))
     else if x2 = (nI 2) then
       (gd (inb x1 3) <|
        some (fnow 3 x1.toNatClampNeg))
     else if x2 = (nI 3) then
       (Option.bind (p_X0_feathersOf fnow x1) <| fun r83 =>
        some r83)
     else if x2 = (nI 4) then
       (Option.bind (p_X0_eggOwner fnow x1) <| fun r92 =>
        some r92)
     else
       (some (-1 : Int32)))
set_option maxHeartbeats 4000000 in
set_option maxRecDepth 100000 in
theorem c_X6_goose (l : Launch) (G : Gt) (ad : Nat → Nat) (ado : Nat → Nat → Nat) (f : Mem) (fnow : Mem) (x1 : Int32) (x2 : Int32) (r : Int32) (hf : p_X6_goose f fnow x1 x2 = some r) (sz : Nat) : Met l yX6_goose wsX6_goose ({ frames := 3, cells := 0, slots := 0, locals := 57 }) (Pc0 G sz [.ref (ad 0), .int x1, .int x2] (wX6 G ad ado f ++ (wX0 G (ado 1) fnow))) (Qi0 G (va_A (wX6 G ad ado f ++ (wX0 G (ado 1) fnow)) sz) r (wX6 G ad ado f ++ (wX0 G (ado 1) fnow))) 0 0 (va_A (wX6 G ad ado f ++ (wX0 G (ado 1) fnow)) sz) := by
  refine metP (Qf := fun A => Qi0 G A r (wX6 G ad ado f ++ (wX0 G (ado 1) fnow))) cX6_goose 3 (some .int) (by decide) rfl (Nat.le_of_ble_eq_true rfl) ?_
  intro p e s m below meth c A ls hC hr hlocks hin hE hA hsz hP hD hS hl
  generalize hargs : ([.ref (ad 0), .int x1, .int x2] : List Value).toArray = args at hC ⊢
  obtain ⟨hx, hb, hml, hown, hts⟩ := id hC
  have hT : va_K G.1 vwCl (tyL G) s := hE.1
  have hRet : ∀ (r9 : Int32) (H : Heap) (locs : List Loc) (ls : Array Slot) (pc : Nat) (hK9 : r9 = r) (hdg : decode cX6_goose pc = .ok (.ireturn, 1)), va_P G.1 vwCl (wX6 G ad ado f ++ (wX0 G (ado 1) fnow)) H → va_D A (wX6 G ad ado f ++ (wX0 G (ado 1) fnow)) → va_S A s.heap H locs → W p l e ({ frames := 3, cells := 0, slots := 0, locals := 57 }) s m args below meth c H locs 0 0 (MQ below (Qi0 G A r (wX6 G ad ado f ++ (wX0 G (ado 1) fnow))) args s 0 0 A) (F0 m pc ls [.int r9]) := by
    intro r9 H locs ls pc hK9 hdg hP hD hS
    cases hK9
    exact W.iret hx hb hr (fun t ht hW => ⟨⟨r, (), rfl, rfl, by rw [ht]; exact hP, hD⟩, hS.F ht⟩) hS.2.2 hdg hlocks
  generalize MQ below (Qi0 G A r (wX6 G ad ado f ++ (wX0 G (ado 1) fnow))) args s 0 0 A = Q at hRet ⊢
  have lk12 := hts (.fieldLink RX6 12 "FeatherShares" "now" "LFeatherShares$Flock;") (by decide +kernel)
  have inX6 : ∀ w ∈ u_ws RX6 TX6 11, w ∈ wsX6_goose := by decide +kernel
  have lk129 := va_Nw.use (A := args) rfl (hE.2.1 (RX6, 129, "FeatherShares$Flock", "kind", "[I", "FeatherShares") (List.mem_of_getElem? (i := 11) rfl))
  have inX0 : ∀ w ∈ u_ws RX0 TX0 13, w ∈ wsX6_goose := by decide +kernel
  have lk132 := va_Nw.use (A := args) rfl (hE.2.1 (RX6, 132, "FeatherShares$Flock", "skin", "[I", "FeatherShares") (List.mem_of_getElem? (i := 12) rfl))
  have lk135 := va_Nw.use (A := args) rfl (hE.2.1 (RX6, 135, "FeatherShares$Flock", "price", "[I", "FeatherShares") (List.mem_of_getElem? (i := 13) rfl))
  have hl : lv_has ls 3 [(0, .ref (ad 0)), (1, .int x1), (2, .int x2)] := hl
  have hK0 : r = r := rfl
  obtain ⟨res, hres, hK⟩ : ∃ res, p_X6_goose f fnow x1 x2 = some res ∧ res = r := ⟨_, hf, rfl⟩
  clear hf
  have hf := hres
  clear hres
  unfold p_X6_goose at hf
  refine lv_aload_n hx hb dX6_goose_0 rfl (lv_at hl 0 rfl) ?_
  refine va_get (C := RX6) (T := TX6) (N := 11) (ci := 6) (v := .ref ((ado 1) 0)) hx hb hts inX6 hown hT hP 0 rfl rfl 0 (Nat.le_of_ble_eq_true rfl) lk12 (fun _ h => h) rfl dX6_goose_1 ?_
  refine lv_iload_n hx hb dX6_goose_4 rfl (lv_at hl 1 rfl) ?_
  obtain ⟨r5, hc5, hf⟩ := bd_e hf
  refine cl_z_ro (Wd := (wX6 G ad ado f ++ (wX0 G (ado 1) fnow))) (Wc := (wX0 G (ado 1) fnow)) [4, 5, 6, 7, 8, 9, 10, 11, 12, 13, 14] rfl (va_runVN (As := [.int x1]) (rest := []) hC (c_X0_hasGoose l G (ado 1) fnow x1 r5 hc5 _) ⟨va_cnB 1 hts gX6_goose_X0_hasGoose_n126 rfl rfl rfl (hE.2.2 (RX6, 126, yX0_hasGoose, "FeatherShares") (List.mem_of_getElem? (i := 10) rfl)) (hts (.initialized RX0) (by decide +kernel)) (by decide +kernel) ⟨Nat.le_of_ble_eq_true rfl, Nat.le_of_ble_eq_true rfl⟩, hts (.instanceMethod yX0_hasGoose) (by decide +kernel), hts (.selects RX0 yX0_hasGoose yX0_hasGoose) (by decide +kernel)⟩ ⟨Pc0_blind, va_recv hT hP (q0 := 4) (ci := 0) rfl rfl, fun U hU hW => Pc0_at (Wd := (wX0 G (ado 1) fnow)) hE (hP.subm [4, 5, 6, 7, 8, 9, 10, 11, 12, 13, 14] rfl) (hD.sub [4, 5, 6, 7, 8, 9, 10, 11, 12, 13, 14] (by decide) rfl) hU hW⟩ rfl rfl hl.1 rfl (lv_room (Nat.le_of_ble_eq_true rfl)) dX6_goose_5 ⟨Nat.zero_le _, Nat.zero_le _⟩) hS hA hP hD (fun H locs hn5 hP hD hS => ?_)
  refine lv_if_ne (tgt := 13) hx hb dX6_goose_8 (by decide) (fun hc => ?_) (fun hc => ?_)
  · have hf := if_f hf hc
    refine lv_iload_n hx hb dX6_goose_13 rfl (lv_at hl 2 rfl) ?_
    by_cases hs0 : x2 = (nI 0)
    · have hf := if_t hf hs0
      refine lv_tableIn (tgt := 48) hx hb dX6_goose_14 (by rw [hs0]; decide) (by rw [hs0]; decide) (by rw [hs0]; rfl) (by decide) ?_
      refine lv_aload_n hx hb dX6_goose_48 rfl (lv_at hl 0 rfl) ?_
      refine va_get (C := RX6) (T := TX6) (N := 11) (ci := 6) (v := .ref ((ado 1) 0)) hx hb hts inX6 hown hT hP 0 rfl rfl 0 (Nat.le_of_ble_eq_true rfl) lk12 (fun _ h => h) rfl dX6_goose_49 ?_
      refine va_getN (C := RX0) (T := TX0) (N := 13) (ci := 0) (v := .ref ((ado 1) 1)) hx hb hts inX0 hown hT hP 4 rfl rfl 3 (Nat.le_of_ble_eq_true rfl) lk129 (fun _ h => h) rfl dX6_goose_52 ?_
      refine lv_iload_n hx hb dX6_goose_55 rfl (lv_at hl 1 rfl) ?_
      obtain ⟨hg, hf⟩ := gd_e hf
      refine va_iald (f := fnow 1) hx hb hT hP 5 0 rfl rfl (inb_e hg) dX6_goose_56 ?_
      have hK9 := K0_of hf hK
      exact hRet (fnow 1 x1.toNatClampNeg) _ _ _ _ hK9 dX6_goose_57 hP hD hS
    have hf := if_f hf hs0
    by_cases hs1 : x2 = (nI 1)
    · have hf := if_t hf hs1
      refine lv_tableIn (tgt := 58) hx hb dX6_goose_14 (by rw [hs1]; decide) (by rw [hs1]; decide) (by rw [hs1]; rfl) (by decide) ?_
      refine lv_aload_n hx hb dX6_goose_58 rfl (lv_at hl 0 rfl) ?_
      refine va_get (C := RX6) (T := TX6) (N := 11) (ci := 6) (v := .ref ((ado 1) 0)) hx hb hts inX6 hown hT hP 0 rfl rfl 0 (Nat.le_of_ble_eq_true rfl) lk12 (fun _ h => h) rfl dX6_goose_59 ?_
      refine va_getN (C := RX0) (T := TX0) (N := 13) (ci := 0) (v := .ref ((ado 1) 2)) hx hb hts inX0 hown hT hP 4 rfl rfl 4 (Nat.le_of_ble_eq_true rfl) lk132 (fun _ h => h) rfl dX6_goose_62 ?_
      refine lv_iload_n hx hb dX6_goose_65 rfl (lv_at hl 1 rfl) ?_
      obtain ⟨hg, hf⟩ := gd_e hf
      refine va_iald (f := fnow 2) hx hb hT hP 6 0 rfl rfl (inb_e hg) dX6_goose_66 ?_
      have hK9 := K0_of hf hK
      exact hRet (fnow 2 x1.toNatClampNeg) _ _ _ _ hK9 dX6_goose_67 hP hD hS
    have hf := if_f hf hs1
    by_cases hs2 : x2 = (nI 2)
    · have hf := if_t hf hs2
      refine lv_tableIn (tgt := 68) hx hb dX6_goose_14 (by rw [hs2]; decide) (by rw [hs2]; decide) (by rw [hs2]; rfl) (by decide) ?_
      refine lv_aload_n hx hb dX6_goose_68 rfl (lv_at hl 0 rfl) ?_
      refine va_get (C := RX6) (T := TX6) (N := 11) (ci := 6) (v := .ref ((ado 1) 0)) hx hb hts inX6 hown hT hP 0 rfl rfl 0 (Nat.le_of_ble_eq_true rfl) lk12 (fun _ h => h) rfl dX6_goose_69 ?_
      refine va_getN (C := RX0) (T := TX0) (N := 13) (ci := 0) (v := .ref ((ado 1) 3)) hx hb hts inX0 hown hT hP 4 rfl rfl 5 (Nat.le_of_ble_eq_true rfl) lk135 (fun _ h => h) rfl dX6_goose_72 ?_
      refine lv_iload_n hx hb dX6_goose_75 rfl (lv_at hl 1 rfl) ?_
      obtain ⟨hg, hf⟩ := gd_e hf
      refine va_iald (f := fnow 3) hx hb hT hP 7 0 rfl rfl (inb_e hg) dX6_goose_76 ?_
      have hK9 := K0_of hf hK
      exact hRet (fnow 3 x1.toNatClampNeg) _ _ _ _ hK9 dX6_goose_77 hP hD hS
    have hf := if_f hf hs2
    by_cases hs3 : x2 = (nI 3)
    · have hf := if_t hf hs3
      refine lv_tableIn (tgt := 78) hx hb dX6_goose_14 (by rw [hs3]; decide) (by rw [hs3]; decide) (by rw [hs3]; rfl) (by decide) ?_
      refine lv_aload_n hx hb dX6_goose_78 rfl (lv_at hl 0 rfl) ?_
      refine va_get (C := RX6) (T := TX6) (N := 11) (ci := 6) (v := .ref ((ado 1) 0)) hx hb hts inX6 hown hT hP 0 rfl rfl 0 (Nat.le_of_ble_eq_true rfl) lk12 (fun _ h => h) rfl dX6_goose_79 ?_
      refine lv_iload_n hx hb dX6_goose_82 rfl (lv_at hl 1 rfl) ?_
      obtain ⟨r83, hc83, hf⟩ := bd_e hf
      refine cl_i_ro (Wd := (wX6 G ad ado f ++ (wX0 G (ado 1) fnow))) (Wc := (wX0 G (ado 1) fnow)) [4, 5, 6, 7, 8, 9, 10, 11, 12, 13, 14] rfl (va_runVN (As := [.int x1]) (rest := []) hC (c_X0_feathersOf l G (ado 1) fnow x1 r83 hc83 _) ⟨va_cnB 1 hts gX6_goose_X0_feathersOf_n138 rfl rfl rfl (hE.2.2 (RX6, 138, yX0_feathersOf, "FeatherShares") (List.mem_of_getElem? (i := 11) rfl)) (hts (.initialized RX0) (by decide +kernel)) (by decide +kernel) ⟨Nat.le_of_ble_eq_true rfl, Nat.le_of_ble_eq_true rfl⟩, hts (.instanceMethod yX0_feathersOf) (by decide +kernel), hts (.selects RX0 yX0_feathersOf yX0_feathersOf) (by decide +kernel)⟩ ⟨Pc0_blind, va_recv hT hP (q0 := 4) (ci := 0) rfl rfl, fun U hU hW => Pc0_at (Wd := (wX0 G (ado 1) fnow)) hE (hP.subm [4, 5, 6, 7, 8, 9, 10, 11, 12, 13, 14] rfl) (hD.sub [4, 5, 6, 7, 8, 9, 10, 11, 12, 13, 14] (by decide) rfl) hU hW⟩ rfl rfl hl.1 rfl (lv_room (Nat.le_of_ble_eq_true rfl)) dX6_goose_83 ⟨Nat.zero_le _, Nat.zero_le _⟩) hS hA hP hD (fun H locs hP hD hS => ?_)
      have hK9 := K0_of hf hK
      exact hRet r83 _ _ _ _ hK9 dX6_goose_86 hP hD hS
    have hf := if_f hf hs3
    by_cases hs4 : x2 = (nI 4)
    · have hf := if_t hf hs4
      refine lv_tableIn (tgt := 87) hx hb dX6_goose_14 (by rw [hs4]; decide) (by rw [hs4]; decide) (by rw [hs4]; rfl) (by decide) ?_
      refine lv_aload_n hx hb dX6_goose_87 rfl (lv_at hl 0 rfl) ?_
      refine va_get (C := RX6) (T := TX6) (N := 11) (ci := 6) (v := .ref ((ado 1) 0)) hx hb hts inX6 hown hT hP 0 rfl rfl 0 (Nat.le_of_ble_eq_true rfl) lk12 (fun _ h => h) rfl dX6_goose_88 ?_
      refine lv_iload_n hx hb dX6_goose_91 rfl (lv_at hl 1 rfl) ?_
      obtain ⟨r92, hc92, hf⟩ := bd_e hf
      refine cl_i_ro (Wd := (wX6 G ad ado f ++ (wX0 G (ado 1) fnow))) (Wc := (wX0 G (ado 1) fnow)) [4, 5, 6, 7, 8, 9, 10, 11, 12, 13, 14] rfl (va_runVN (As := [.int x1]) (rest := []) hC (c_X0_eggOwner l G (ado 1) fnow x1 r92 hc92 _) ⟨va_cnB 1 hts gX6_goose_X0_eggOwner_n142 rfl rfl rfl (hE.2.2 (RX6, 142, yX0_eggOwner, "FeatherShares") (List.mem_of_getElem? (i := 12) rfl)) (hts (.initialized RX0) (by decide +kernel)) (by decide +kernel) ⟨Nat.le_of_ble_eq_true rfl, Nat.le_of_ble_eq_true rfl⟩, hts (.instanceMethod yX0_eggOwner) (by decide +kernel), hts (.selects RX0 yX0_eggOwner yX0_eggOwner) (by decide +kernel)⟩ ⟨Pc0_blind, va_recv hT hP (q0 := 4) (ci := 0) rfl rfl, fun U hU hW => Pc0_at (Wd := (wX0 G (ado 1) fnow)) hE (hP.subm [4, 5, 6, 7, 8, 9, 10, 11, 12, 13, 14] rfl) (hD.sub [4, 5, 6, 7, 8, 9, 10, 11, 12, 13, 14] (by decide) rfl) hU hW⟩ rfl rfl hl.1 rfl (lv_room (Nat.le_of_ble_eq_true rfl)) dX6_goose_92 ⟨Nat.zero_le _, Nat.zero_le _⟩) hS hA hP hD (fun H locs hP hD hS => ?_)
      have hK9 := K0_of hf hK
      exact hRet r92 _ _ _ _ hK9 dX6_goose_95 hP hD hS
    have hf := if_f hf hs4
    have hout : x2.toInt < 0 ∨ 4 < x2.toInt := by
      have t0 := ne_int hs0 (by decide)
      have t1 := ne_int hs1 (by decide)
      have t2 := ne_int hs2 (by decide)
      have t3 := ne_int hs3 (by decide)
      have t4 := ne_int hs4 (by decide)
      omega
    refine lv_tableOut (tgt := 96) hx hb dX6_goose_14 hout (by decide) ?_
    refine lv_iconst (v := (-1 : Int32)) hx hb dX6_goose_96 (ic_m1) ?_
    have hK9 := K0_of hf hK
    exact hRet (-1 : Int32) _ _ _ _ hK9 dX6_goose_97 hP hD hS
  · have hf := if_t hf hc
    refine lv_iconst (v := (-1 : Int32)) hx hb dX6_goose_11 (ic_m1) ?_
    have hK9 := K0_of hf hK
    exact hRet (-1 : Int32) _ _ _ _ hK9 dX6_goose_12 hP hD hS
noncomputable def p_X6_owner (f : Mem) (fnow : Mem) (x1 : Int32) (x2 : Int32) : Option (Int32) :=
  Option.bind (p_X6_isOwner x1) <| fun r1 =>
  if r1 = 0 then
    (some (-1 : Int32))
  else
    (Option.bind (p_X0_ofOwner fnow x1 x2) <| fun r13 =>
     some r13)
set_option maxHeartbeats 4000000 in
set_option maxRecDepth 100000 in
theorem c_X6_owner (l : Launch) (G : Gt) (ad : Nat → Nat) (ado : Nat → Nat → Nat) (f : Mem) (fnow : Mem) (x1 : Int32) (x2 : Int32) (r : Int32) (hf : p_X6_owner f fnow x1 x2 = some r) (sz : Nat) : Met l yX6_owner wsX6_owner ({ frames := 5, cells := 0, slots := 0, locals := 102 }) (Pc0 G sz [.ref (ad 0), .int x1, .int x2] (wX6 G ad ado f ++ (wX0 G (ado 1) fnow))) (Qi0 G (va_A (wX6 G ad ado f ++ (wX0 G (ado 1) fnow)) sz) r (wX6 G ad ado f ++ (wX0 G (ado 1) fnow))) 0 0 (va_A (wX6 G ad ado f ++ (wX0 G (ado 1) fnow)) sz) := by
  refine metP (Qf := fun A => Qi0 G A r (wX6 G ad ado f ++ (wX0 G (ado 1) fnow))) cX6_owner 3 (some .int) (by decide) rfl (Nat.le_of_ble_eq_true rfl) ?_
  intro p e s m below meth c A ls hC hr hlocks hin hE hA hsz hP hD hS hl
  generalize hargs : ([.ref (ad 0), .int x1, .int x2] : List Value).toArray = args at hC ⊢
  obtain ⟨hx, hb, hml, hown, hts⟩ := id hC
  have hT : va_K G.1 vwCl (tyL G) s := hE.1
  have hRet : ∀ (r9 : Int32) (H : Heap) (locs : List Loc) (ls : Array Slot) (pc : Nat) (hK9 : r9 = r) (hdg : decode cX6_owner pc = .ok (.ireturn, 1)), va_P G.1 vwCl (wX6 G ad ado f ++ (wX0 G (ado 1) fnow)) H → va_D A (wX6 G ad ado f ++ (wX0 G (ado 1) fnow)) → va_S A s.heap H locs → W p l e ({ frames := 5, cells := 0, slots := 0, locals := 102 }) s m args below meth c H locs 0 0 (MQ below (Qi0 G A r (wX6 G ad ado f ++ (wX0 G (ado 1) fnow))) args s 0 0 A) (F0 m pc ls [.int r9]) := by
    intro r9 H locs ls pc hK9 hdg hP hD hS
    cases hK9
    exact W.iret hx hb hr (fun t ht hW => ⟨⟨r, (), rfl, rfl, by rw [ht]; exact hP, hD⟩, hS.F ht⟩) hS.2.2 hdg hlocks
  generalize MQ below (Qi0 G A r (wX6 G ad ado f ++ (wX0 G (ado 1) fnow))) args s 0 0 A = Q at hRet ⊢
  have lk12 := hts (.fieldLink RX6 12 "FeatherShares" "now" "LFeatherShares$Flock;") (by decide +kernel)
  have inX6 : ∀ w ∈ u_ws RX6 TX6 11, w ∈ wsX6_owner := by decide +kernel
  have hl : lv_has ls 3 [(0, .ref (ad 0)), (1, .int x1), (2, .int x2)] := hl
  have hK0 : r = r := rfl
  obtain ⟨res, hres, hK⟩ : ∃ res, p_X6_owner f fnow x1 x2 = some res ∧ res = r := ⟨_, hf, rfl⟩
  clear hf
  have hf := hres
  clear hres
  unfold p_X6_owner at hf
  refine lv_iload_n hx hb dX6_owner_0 rfl (lv_at hl 1 rfl) ?_
  obtain ⟨r1, hc1, hf⟩ := bd_e hf
  refine cl_z_ro (Wd := (wX6 G ad ado f ++ (wX0 G (ado 1) fnow))) (Wc := ([] : va_W)) [] rfl (va_runS (As := [.int x1]) (rest := []) hC (c_X6_isOwner l G x1 r1 hc1 _) (va_cwS 1 hts gX6_owner_X6_isOwner rfl rfl rfl (by decide +kernel) ⟨Nat.le_of_ble_eq_true rfl, Nat.le_of_ble_eq_true rfl⟩) ⟨Pc0_blind, fun U hU hW => Pc0_at (Wd := ([] : va_W)) hE (hP.subm [] rfl) (hD.sub [] (by decide) rfl) hU hW⟩ rfl rfl hl.1 rfl (lv_room (Nat.le_of_ble_eq_true rfl)) dX6_owner_1 ⟨Nat.zero_le _, Nat.zero_le _⟩) hS hA hP hD (fun H locs hn1 hP hD hS => ?_)
  refine lv_if_eq (tgt := 19) hx hb dX6_owner_4 (by decide) (fun hc => ?_) (fun hc => ?_)
  · have hf := if_t hf hc
    refine lv_iconst (v := (-1 : Int32)) hx hb dX6_owner_19 (ic_m1) ?_
    have hK9 := K0_of hf hK
    exact hRet (-1 : Int32) _ _ _ _ hK9 dX6_owner_20 hP hD hS
  · have hf := if_f hf hc
    refine lv_aload_n hx hb dX6_owner_7 rfl (lv_at hl 0 rfl) ?_
    refine va_get (C := RX6) (T := TX6) (N := 11) (ci := 6) (v := .ref ((ado 1) 0)) hx hb hts inX6 hown hT hP 0 rfl rfl 0 (Nat.le_of_ble_eq_true rfl) lk12 (fun _ h => h) rfl dX6_owner_8 ?_
    refine lv_iload_n hx hb dX6_owner_11 rfl (lv_at hl 1 rfl) ?_
    refine lv_iload_n hx hb dX6_owner_12 rfl (lv_at hl 2 rfl) ?_
    obtain ⟨r13, hc13, hf⟩ := bd_e hf
    refine cl_i_ro (Wd := (wX6 G ad ado f ++ (wX0 G (ado 1) fnow))) (Wc := (wX0 G (ado 1) fnow)) [4, 5, 6, 7, 8, 9, 10, 11, 12, 13, 14] rfl (va_runVN (As := [.int x1, .int x2]) (rest := []) hC (c_X0_ofOwner l G (ado 1) fnow x1 x2 r13 hc13 _) ⟨va_cnB 2 hts gX6_owner_X0_ofOwner_n148 rfl rfl rfl (hE.2.2 (RX6, 148, yX0_ofOwner, "FeatherShares") (List.mem_of_getElem? (i := 13) rfl)) (hts (.initialized RX0) (by decide +kernel)) (by decide +kernel) ⟨Nat.le_of_ble_eq_true rfl, Nat.le_of_ble_eq_true rfl⟩, hts (.instanceMethod yX0_ofOwner) (by decide +kernel), hts (.selects RX0 yX0_ofOwner yX0_ofOwner) (by decide +kernel)⟩ ⟨Pc0_blind, va_recv hT hP (q0 := 4) (ci := 0) rfl rfl, fun U hU hW => Pc0_at (Wd := (wX0 G (ado 1) fnow)) hE (hP.subm [4, 5, 6, 7, 8, 9, 10, 11, 12, 13, 14] rfl) (hD.sub [4, 5, 6, 7, 8, 9, 10, 11, 12, 13, 14] (by decide) rfl) hU hW⟩ rfl rfl hl.1 rfl (lv_room (Nat.le_of_ble_eq_true rfl)) dX6_owner_13 ⟨Nat.zero_le _, Nat.zero_le _⟩) hS hA hP hD (fun H locs hP hD hS => ?_)
    refine lv_goto (tgt := 20) hx hb dX6_owner_16 (by decide) ?_
    have hK9 := K0_of hf hK
    exact hRet r13 _ _ _ _ hK9 dX6_owner_20 hP hD hS
noncomputable def p_X6_share (f : Mem) (fnow : Mem) (x1 : Int32) (x2 : Int32) : Option (Int32) :=
  Option.bind (p_X0_hasGoose fnow x1) <| fun r5 =>
  if r5 = 0 then
    (some (-1 : Int32))
  else
    (Option.bind (p_X6_isOwner x2) <| fun r12 =>
     if r12 = 0 then
       (some (-1 : Int32))
     else
       (Option.bind (p_X0_held fnow x1 x2) <| fun r24 =>
        some r24))
set_option maxHeartbeats 4000000 in
set_option maxRecDepth 100000 in
theorem c_X6_share (l : Launch) (G : Gt) (ad : Nat → Nat) (ado : Nat → Nat → Nat) (f : Mem) (fnow : Mem) (x1 : Int32) (x2 : Int32) (r : Int32) (hf : p_X6_share f fnow x1 x2 = some r) (sz : Nat) : Met l yX6_share wsX6_share ({ frames := 3, cells := 0, slots := 0, locals := 55 }) (Pc0 G sz [.ref (ad 0), .int x1, .int x2] (wX6 G ad ado f ++ (wX0 G (ado 1) fnow))) (Qi0 G (va_A (wX6 G ad ado f ++ (wX0 G (ado 1) fnow)) sz) r (wX6 G ad ado f ++ (wX0 G (ado 1) fnow))) 0 0 (va_A (wX6 G ad ado f ++ (wX0 G (ado 1) fnow)) sz) := by
  refine metP (Qf := fun A => Qi0 G A r (wX6 G ad ado f ++ (wX0 G (ado 1) fnow))) cX6_share 3 (some .int) (by decide) rfl (Nat.le_of_ble_eq_true rfl) ?_
  intro p e s m below meth c A ls hC hr hlocks hin hE hA hsz hP hD hS hl
  generalize hargs : ([.ref (ad 0), .int x1, .int x2] : List Value).toArray = args at hC ⊢
  obtain ⟨hx, hb, hml, hown, hts⟩ := id hC
  have hT : va_K G.1 vwCl (tyL G) s := hE.1
  have hRet : ∀ (r9 : Int32) (H : Heap) (locs : List Loc) (ls : Array Slot) (pc : Nat) (hK9 : r9 = r) (hdg : decode cX6_share pc = .ok (.ireturn, 1)), va_P G.1 vwCl (wX6 G ad ado f ++ (wX0 G (ado 1) fnow)) H → va_D A (wX6 G ad ado f ++ (wX0 G (ado 1) fnow)) → va_S A s.heap H locs → W p l e ({ frames := 3, cells := 0, slots := 0, locals := 55 }) s m args below meth c H locs 0 0 (MQ below (Qi0 G A r (wX6 G ad ado f ++ (wX0 G (ado 1) fnow))) args s 0 0 A) (F0 m pc ls [.int r9]) := by
    intro r9 H locs ls pc hK9 hdg hP hD hS
    cases hK9
    exact W.iret hx hb hr (fun t ht hW => ⟨⟨r, (), rfl, rfl, by rw [ht]; exact hP, hD⟩, hS.F ht⟩) hS.2.2 hdg hlocks
  generalize MQ below (Qi0 G A r (wX6 G ad ado f ++ (wX0 G (ado 1) fnow))) args s 0 0 A = Q at hRet ⊢
  have lk12 := hts (.fieldLink RX6 12 "FeatherShares" "now" "LFeatherShares$Flock;") (by decide +kernel)
  have inX6 : ∀ w ∈ u_ws RX6 TX6 11, w ∈ wsX6_share := by decide +kernel
  have hl : lv_has ls 3 [(0, .ref (ad 0)), (1, .int x1), (2, .int x2)] := hl
  have hK0 : r = r := rfl
  obtain ⟨res, hres, hK⟩ : ∃ res, p_X6_share f fnow x1 x2 = some res ∧ res = r := ⟨_, hf, rfl⟩
  clear hf
  have hf := hres
  clear hres
  unfold p_X6_share at hf
  refine lv_aload_n hx hb dX6_share_0 rfl (lv_at hl 0 rfl) ?_
  refine va_get (C := RX6) (T := TX6) (N := 11) (ci := 6) (v := .ref ((ado 1) 0)) hx hb hts inX6 hown hT hP 0 rfl rfl 0 (Nat.le_of_ble_eq_true rfl) lk12 (fun _ h => h) rfl dX6_share_1 ?_
  refine lv_iload_n hx hb dX6_share_4 rfl (lv_at hl 1 rfl) ?_
  obtain ⟨r5, hc5, hf⟩ := bd_e hf
  refine cl_z_ro (Wd := (wX6 G ad ado f ++ (wX0 G (ado 1) fnow))) (Wc := (wX0 G (ado 1) fnow)) [4, 5, 6, 7, 8, 9, 10, 11, 12, 13, 14] rfl (va_runVN (As := [.int x1]) (rest := []) hC (c_X0_hasGoose l G (ado 1) fnow x1 r5 hc5 _) ⟨va_cnB 1 hts gX6_share_X0_hasGoose_n126 rfl rfl rfl (hE.2.2 (RX6, 126, yX0_hasGoose, "FeatherShares") (List.mem_of_getElem? (i := 10) rfl)) (hts (.initialized RX0) (by decide +kernel)) (by decide +kernel) ⟨Nat.le_of_ble_eq_true rfl, Nat.le_of_ble_eq_true rfl⟩, hts (.instanceMethod yX0_hasGoose) (by decide +kernel), hts (.selects RX0 yX0_hasGoose yX0_hasGoose) (by decide +kernel)⟩ ⟨Pc0_blind, va_recv hT hP (q0 := 4) (ci := 0) rfl rfl, fun U hU hW => Pc0_at (Wd := (wX0 G (ado 1) fnow)) hE (hP.subm [4, 5, 6, 7, 8, 9, 10, 11, 12, 13, 14] rfl) (hD.sub [4, 5, 6, 7, 8, 9, 10, 11, 12, 13, 14] (by decide) rfl) hU hW⟩ rfl rfl hl.1 rfl (lv_room (Nat.le_of_ble_eq_true rfl)) dX6_share_5 ⟨Nat.zero_le _, Nat.zero_le _⟩) hS hA hP hD (fun H locs hn5 hP hD hS => ?_)
  refine lv_if_eq (tgt := 30) hx hb dX6_share_8 (by decide) (fun hc => ?_) (fun hc => ?_)
  · have hf := if_t hf hc
    refine lv_iconst (v := (-1 : Int32)) hx hb dX6_share_30 (ic_m1) ?_
    have hK9 := K0_of hf hK
    exact hRet (-1 : Int32) _ _ _ _ hK9 dX6_share_31 hP hD hS
  · have hf := if_f hf hc
    refine lv_iload_n hx hb dX6_share_11 rfl (lv_at hl 2 rfl) ?_
    obtain ⟨r12, hc12, hf⟩ := bd_e hf
    refine cl_z_ro (Wd := (wX6 G ad ado f ++ (wX0 G (ado 1) fnow))) (Wc := ([] : va_W)) [] rfl (va_runS (As := [.int x2]) (rest := []) hC (c_X6_isOwner l G x2 r12 hc12 _) (va_cwS 1 hts gX6_share_X6_isOwner rfl rfl rfl (by decide +kernel) ⟨Nat.le_of_ble_eq_true rfl, Nat.le_of_ble_eq_true rfl⟩) ⟨Pc0_blind, fun U hU hW => Pc0_at (Wd := ([] : va_W)) hE (hP.subm [] rfl) (hD.sub [] (by decide) rfl) hU hW⟩ rfl rfl hl.1 rfl (lv_room (Nat.le_of_ble_eq_true rfl)) dX6_share_12 ⟨Nat.zero_le _, Nat.zero_le _⟩) hS hA hP hD (fun H locs hn12 hP hD hS => ?_)
    refine lv_if_eq (tgt := 30) hx hb dX6_share_15 (by decide) (fun hc => ?_) (fun hc => ?_)
    · have hf := if_t hf hc
      refine lv_iconst (v := (-1 : Int32)) hx hb dX6_share_30 (ic_m1) ?_
      have hK9 := K0_of hf hK
      exact hRet (-1 : Int32) _ _ _ _ hK9 dX6_share_31 hP hD hS
    · have hf := if_f hf hc
      refine lv_aload_n hx hb dX6_share_18 rfl (lv_at hl 0 rfl) ?_
      refine va_get (C := RX6) (T := TX6) (N := 11) (ci := 6) (v := .ref ((ado 1) 0)) hx hb hts inX6 hown hT hP 0 rfl rfl 0 (Nat.le_of_ble_eq_true rfl) lk12 (fun _ h => h) rfl dX6_share_19 ?_
      refine lv_iload_n hx hb dX6_share_22 rfl (lv_at hl 1 rfl) ?_
      refine lv_iload_n hx hb dX6_share_23 rfl (lv_at hl 2 rfl) ?_
      obtain ⟨r24, hc24, hf⟩ := bd_e hf
      refine cl_i_ro (Wd := (wX6 G ad ado f ++ (wX0 G (ado 1) fnow))) (Wc := (wX0 G (ado 1) fnow)) [4, 5, 6, 7, 8, 9, 10, 11, 12, 13, 14] rfl (va_runVN (As := [.int x1, .int x2]) (rest := []) hC (c_X0_held l G (ado 1) fnow x1 x2 r24 hc24 _) ⟨va_cnB 2 hts gX6_share_X0_held_n152 rfl rfl rfl (hE.2.2 (RX6, 152, yX0_held, "FeatherShares") (List.mem_of_getElem? (i := 14) rfl)) (hts (.initialized RX0) (by decide +kernel)) (by decide +kernel) ⟨Nat.le_of_ble_eq_true rfl, Nat.le_of_ble_eq_true rfl⟩, hts (.instanceMethod yX0_held) (by decide +kernel), hts (.selects RX0 yX0_held yX0_held) (by decide +kernel)⟩ ⟨Pc0_blind, va_recv hT hP (q0 := 4) (ci := 0) rfl rfl, fun U hU hW => Pc0_at (Wd := (wX0 G (ado 1) fnow)) hE (hP.subm [4, 5, 6, 7, 8, 9, 10, 11, 12, 13, 14] rfl) (hD.sub [4, 5, 6, 7, 8, 9, 10, 11, 12, 13, 14] (by decide) rfl) hU hW⟩ rfl rfl hl.1 rfl (lv_room (Nat.le_of_ble_eq_true rfl)) dX6_share_24 ⟨Nat.zero_le _, Nat.zero_le _⟩) hS hA hP hD (fun H locs hP hD hS => ?_)
      refine lv_goto (tgt := 31) hx hb dX6_share_27 (by decide) ?_
      have hK9 := K0_of hf hK
      exact hRet r24 _ _ _ _ hK9 dX6_share_31 hP hD hS
noncomputable def p_X6_trade (f : Mem) (fnow : Mem) (x1 : Int32) (x2 : Int32) : Option (Int32) :=
  Option.bind (p_X6_isWithin x1 (nI 0) ((fnow 0 2) - (nI 1))) <| fun r11 =>
  if r11 = 0 then
    (some (-1 : Int32))
  else
    (if x2 = (nI 0) then
       (gd (inb x1 6) <|
        some (fnow 7 x1.toNatClampNeg))
     else if x2 = (nI 1) then
       (gd (inb x1 6) <|
        some (fnow 8 x1.toNatClampNeg))
     else if x2 = (nI 2) then
       (gd (inb x1 6) <|
        some (fnow 9 x1.toNatClampNeg))
     else if x2 = (nI 3) then
       (gd (inb x1 6) <|
        some (fnow 10 x1.toNatClampNeg))
     else
       (some (-1 : Int32)))
set_option maxHeartbeats 4000000 in
set_option maxRecDepth 100000 in
theorem c_X6_trade (l : Launch) (G : Gt) (ad : Nat → Nat) (ado : Nat → Nat → Nat) (f : Mem) (fnow : Mem) (x1 : Int32) (x2 : Int32) (r : Int32) (hf : p_X6_trade f fnow x1 x2 = some r) (sz : Nat) : Met l yX6_trade wsX6_trade ({ frames := 2, cells := 0, slots := 0, locals := 34 }) (Pc0 G sz [.ref (ad 0), .int x1, .int x2] (wX6 G ad ado f ++ (wX0 G (ado 1) fnow))) (Qi0 G (va_A (wX6 G ad ado f ++ (wX0 G (ado 1) fnow)) sz) r (wX6 G ad ado f ++ (wX0 G (ado 1) fnow))) 0 0 (va_A (wX6 G ad ado f ++ (wX0 G (ado 1) fnow)) sz) := by
  refine metP (Qf := fun A => Qi0 G A r (wX6 G ad ado f ++ (wX0 G (ado 1) fnow))) cX6_trade 3 (some .int) (by decide) rfl (Nat.le_of_ble_eq_true rfl) ?_
  intro p e s m below meth c A ls hC hr hlocks hin hE hA hsz hP hD hS hl
  generalize hargs : ([.ref (ad 0), .int x1, .int x2] : List Value).toArray = args at hC ⊢
  obtain ⟨hx, hb, hml, hown, hts⟩ := id hC
  have hT : va_K G.1 vwCl (tyL G) s := hE.1
  have hRet : ∀ (r9 : Int32) (H : Heap) (locs : List Loc) (ls : Array Slot) (pc : Nat) (hK9 : r9 = r) (hdg : decode cX6_trade pc = .ok (.ireturn, 1)), va_P G.1 vwCl (wX6 G ad ado f ++ (wX0 G (ado 1) fnow)) H → va_D A (wX6 G ad ado f ++ (wX0 G (ado 1) fnow)) → va_S A s.heap H locs → W p l e ({ frames := 2, cells := 0, slots := 0, locals := 34 }) s m args below meth c H locs 0 0 (MQ below (Qi0 G A r (wX6 G ad ado f ++ (wX0 G (ado 1) fnow))) args s 0 0 A) (F0 m pc ls [.int r9]) := by
    intro r9 H locs ls pc hK9 hdg hP hD hS
    cases hK9
    exact W.iret hx hb hr (fun t ht hW => ⟨⟨r, (), rfl, rfl, by rw [ht]; exact hP, hD⟩, hS.F ht⟩) hS.2.2 hdg hlocks
  generalize MQ below (Qi0 G A r (wX6 G ad ado f ++ (wX0 G (ado 1) fnow))) args s 0 0 A = Q at hRet ⊢
  have lk12 := hts (.fieldLink RX6 12 "FeatherShares" "now" "LFeatherShares$Flock;") (by decide +kernel)
  have inX6 : ∀ w ∈ u_ws RX6 TX6 11, w ∈ wsX6_trade := by decide +kernel
  have lk109 := va_Nw.use (A := args) rfl (hE.2.1 (RX6, 109, "FeatherShares$Flock", "trades", "I", "FeatherShares") (List.mem_of_getElem? (i := 8) rfl))
  have inX0 : ∀ w ∈ u_ws RX0 TX0 13, w ∈ wsX6_trade := by decide +kernel
  have lk155 := va_Nw.use (A := args) rfl (hE.2.1 (RX6, 155, "FeatherShares$Flock", "planBuyer", "[I", "FeatherShares") (List.mem_of_getElem? (i := 14) rfl))
  have lk158 := va_Nw.use (A := args) rfl (hE.2.1 (RX6, 158, "FeatherShares$Flock", "planSeller", "[I", "FeatherShares") (List.mem_of_getElem? (i := 15) rfl))
  have lk161 := va_Nw.use (A := args) rfl (hE.2.1 (RX6, 161, "FeatherShares$Flock", "planGoose", "[I", "FeatherShares") (List.mem_of_getElem? (i := 16) rfl))
  have lk164 := va_Nw.use (A := args) rfl (hE.2.1 (RX6, 164, "FeatherShares$Flock", "planAmount", "[I", "FeatherShares") (List.mem_of_getElem? (i := 17) rfl))
  have hl : lv_has ls 3 [(0, .ref (ad 0)), (1, .int x1), (2, .int x2)] := hl
  have hK0 : r = r := rfl
  obtain ⟨res, hres, hK⟩ : ∃ res, p_X6_trade f fnow x1 x2 = some res ∧ res = r := ⟨_, hf, rfl⟩
  clear hf
  have hf := hres
  clear hres
  unfold p_X6_trade at hf
  refine lv_iload_n hx hb dX6_trade_0 rfl (lv_at hl 1 rfl) ?_
  refine lv_iconst (v := (nI 0)) hx hb dX6_trade_1 (ic_0) ?_
  refine lv_aload_n hx hb dX6_trade_2 rfl (lv_at hl 0 rfl) ?_
  refine va_get (C := RX6) (T := TX6) (N := 11) (ci := 6) (v := .ref ((ado 1) 0)) hx hb hts inX6 hown hT hP 0 rfl rfl 0 (Nat.le_of_ble_eq_true rfl) lk12 (fun _ h => h) rfl dX6_trade_3 ?_
  refine va_getN (C := RX0) (T := TX0) (N := 13) (ci := 0) (v := .int (fnow 0 2)) hx hb hts inX0 hown hT hP 4 rfl rfl 2 (Nat.le_of_ble_eq_true rfl) lk109 (fun _ h => h) rfl dX6_trade_6 ?_
  refine lv_iconst (v := (nI 1)) hx hb dX6_trade_9 (ic_1) ?_
  refine lv_isub hx hb dX6_trade_10 ?_
  obtain ⟨r11, hc11, hf⟩ := bd_e hf
  refine cl_z_ro (Wd := (wX6 G ad ado f ++ (wX0 G (ado 1) fnow))) (Wc := ([] : va_W)) [] rfl (va_runS (As := [.int x1, .int (nI 0), .int ((fnow 0 2) - (nI 1))]) (rest := []) hC (c_X6_isWithin l G x1 (nI 0) ((fnow 0 2) - (nI 1)) r11 hc11 _) (va_cwS 3 hts gX6_trade_X6_isWithin rfl rfl rfl (by decide +kernel) ⟨Nat.le_of_ble_eq_true rfl, Nat.le_of_ble_eq_true rfl⟩) ⟨Pc0_blind, fun U hU hW => Pc0_at (Wd := ([] : va_W)) hE (hP.subm [] rfl) (hD.sub [] (by decide) rfl) hU hW⟩ rfl rfl hl.1 rfl (lv_room (Nat.le_of_ble_eq_true rfl)) dX6_trade_11 ⟨Nat.zero_le _, Nat.zero_le _⟩) hS hA hP hD (fun H locs hn11 hP hD hS => ?_)
  refine lv_if_ne (tgt := 19) hx hb dX6_trade_14 (by decide) (fun hc => ?_) (fun hc => ?_)
  · have hf := if_f hf hc
    refine lv_iload_n hx hb dX6_trade_19 rfl (lv_at hl 2 rfl) ?_
    by_cases hs0 : x2 = (nI 0)
    · have hf := if_t hf hs0
      refine lv_tableIn (tgt := 52) hx hb dX6_trade_20 (by rw [hs0]; decide) (by rw [hs0]; decide) (by rw [hs0]; rfl) (by decide) ?_
      refine lv_aload_n hx hb dX6_trade_52 rfl (lv_at hl 0 rfl) ?_
      refine va_get (C := RX6) (T := TX6) (N := 11) (ci := 6) (v := .ref ((ado 1) 0)) hx hb hts inX6 hown hT hP 0 rfl rfl 0 (Nat.le_of_ble_eq_true rfl) lk12 (fun _ h => h) rfl dX6_trade_53 ?_
      refine va_getN (C := RX0) (T := TX0) (N := 13) (ci := 0) (v := .ref ((ado 1) 7)) hx hb hts inX0 hown hT hP 4 rfl rfl 9 (Nat.le_of_ble_eq_true rfl) lk155 (fun _ h => h) rfl dX6_trade_56 ?_
      refine lv_iload_n hx hb dX6_trade_59 rfl (lv_at hl 1 rfl) ?_
      obtain ⟨hg, hf⟩ := gd_e hf
      refine va_iald (f := fnow 7) hx hb hT hP 11 0 rfl rfl (inb_e hg) dX6_trade_60 ?_
      have hK9 := K0_of hf hK
      exact hRet (fnow 7 x1.toNatClampNeg) _ _ _ _ hK9 dX6_trade_61 hP hD hS
    have hf := if_f hf hs0
    by_cases hs1 : x2 = (nI 1)
    · have hf := if_t hf hs1
      refine lv_tableIn (tgt := 62) hx hb dX6_trade_20 (by rw [hs1]; decide) (by rw [hs1]; decide) (by rw [hs1]; rfl) (by decide) ?_
      refine lv_aload_n hx hb dX6_trade_62 rfl (lv_at hl 0 rfl) ?_
      refine va_get (C := RX6) (T := TX6) (N := 11) (ci := 6) (v := .ref ((ado 1) 0)) hx hb hts inX6 hown hT hP 0 rfl rfl 0 (Nat.le_of_ble_eq_true rfl) lk12 (fun _ h => h) rfl dX6_trade_63 ?_
      refine va_getN (C := RX0) (T := TX0) (N := 13) (ci := 0) (v := .ref ((ado 1) 8)) hx hb hts inX0 hown hT hP 4 rfl rfl 10 (Nat.le_of_ble_eq_true rfl) lk158 (fun _ h => h) rfl dX6_trade_66 ?_
      refine lv_iload_n hx hb dX6_trade_69 rfl (lv_at hl 1 rfl) ?_
      obtain ⟨hg, hf⟩ := gd_e hf
      refine va_iald (f := fnow 8) hx hb hT hP 12 0 rfl rfl (inb_e hg) dX6_trade_70 ?_
      have hK9 := K0_of hf hK
      exact hRet (fnow 8 x1.toNatClampNeg) _ _ _ _ hK9 dX6_trade_71 hP hD hS
    have hf := if_f hf hs1
    by_cases hs2 : x2 = (nI 2)
    · have hf := if_t hf hs2
      refine lv_tableIn (tgt := 72) hx hb dX6_trade_20 (by rw [hs2]; decide) (by rw [hs2]; decide) (by rw [hs2]; rfl) (by decide) ?_
      refine lv_aload_n hx hb dX6_trade_72 rfl (lv_at hl 0 rfl) ?_
      refine va_get (C := RX6) (T := TX6) (N := 11) (ci := 6) (v := .ref ((ado 1) 0)) hx hb hts inX6 hown hT hP 0 rfl rfl 0 (Nat.le_of_ble_eq_true rfl) lk12 (fun _ h => h) rfl dX6_trade_73 ?_
      refine va_getN (C := RX0) (T := TX0) (N := 13) (ci := 0) (v := .ref ((ado 1) 9)) hx hb hts inX0 hown hT hP 4 rfl rfl 11 (Nat.le_of_ble_eq_true rfl) lk161 (fun _ h => h) rfl dX6_trade_76 ?_
      refine lv_iload_n hx hb dX6_trade_79 rfl (lv_at hl 1 rfl) ?_
      obtain ⟨hg, hf⟩ := gd_e hf
      refine va_iald (f := fnow 9) hx hb hT hP 13 0 rfl rfl (inb_e hg) dX6_trade_80 ?_
      have hK9 := K0_of hf hK
      exact hRet (fnow 9 x1.toNatClampNeg) _ _ _ _ hK9 dX6_trade_81 hP hD hS
    have hf := if_f hf hs2
    by_cases hs3 : x2 = (nI 3)
    · have hf := if_t hf hs3
      refine lv_tableIn (tgt := 82) hx hb dX6_trade_20 (by rw [hs3]; decide) (by rw [hs3]; decide) (by rw [hs3]; rfl) (by decide) ?_
      refine lv_aload_n hx hb dX6_trade_82 rfl (lv_at hl 0 rfl) ?_
      refine va_get (C := RX6) (T := TX6) (N := 11) (ci := 6) (v := .ref ((ado 1) 0)) hx hb hts inX6 hown hT hP 0 rfl rfl 0 (Nat.le_of_ble_eq_true rfl) lk12 (fun _ h => h) rfl dX6_trade_83 ?_
      refine va_getN (C := RX0) (T := TX0) (N := 13) (ci := 0) (v := .ref ((ado 1) 10)) hx hb hts inX0 hown hT hP 4 rfl rfl 12 (Nat.le_of_ble_eq_true rfl) lk164 (fun _ h => h) rfl dX6_trade_86 ?_
      refine lv_iload_n hx hb dX6_trade_89 rfl (lv_at hl 1 rfl) ?_
      obtain ⟨hg, hf⟩ := gd_e hf
      refine va_iald (f := fnow 10) hx hb hT hP 14 0 rfl rfl (inb_e hg) dX6_trade_90 ?_
      have hK9 := K0_of hf hK
      exact hRet (fnow 10 x1.toNatClampNeg) _ _ _ _ hK9 dX6_trade_91 hP hD hS
    have hf := if_f hf hs3
    have hout : x2.toInt < 0 ∨ 3 < x2.toInt := by
      have t0 := ne_int hs0 (by decide)
      have t1 := ne_int hs1 (by decide)
      have t2 := ne_int hs2 (by decide)
      have t3 := ne_int hs3 (by decide)
      omega
    refine lv_tableOut (tgt := 92) hx hb dX6_trade_20 hout (by decide) ?_
    refine lv_iconst (v := (-1 : Int32)) hx hb dX6_trade_92 (ic_m1) ?_
    have hK9 := K0_of hf hK
    exact hRet (-1 : Int32) _ _ _ _ hK9 dX6_trade_93 hP hD hS
  · have hf := if_t hf hc
    refine lv_iconst (v := (-1 : Int32)) hx hb dX6_trade_17 (ic_m1) ?_
    have hK9 := K0_of hf hK
    exact hRet (-1 : Int32) _ _ _ _ hK9 dX6_trade_18 hP hD hS
noncomputable def p_X6_replaced (n0 : Nat) (g0 : Nat → Int32) (x1 : Int32) (x2 : Int32) : Option (Int32 × (Nat → Int32)) :=
  Option.bind (p_X6_isWithin x1 (nI 0) ((nI n0) - (nI 1))) <| fun r6 =>
  if r6 = 0 then
    (some ((-1 : Int32), g0))
  else
    (gd (inb x1 n0) <|
     gd (inb x1 n0) <|
     some ((g0 x1.toNatClampNeg), (upd g0 x1.toNatClampNeg x2)))
set_option maxHeartbeats 4000000 in
set_option maxRecDepth 100000 in
theorem c_X6_replaced (l : Launch) (G : Gt) (aq0 : Nat) (n0 : Nat) (g0 : Nat → Int32) (x1 : Int32) (x2 : Int32) (r : Int32) (g0z : Nat → Int32) (hf : p_X6_replaced n0 g0 x1 x2 = some (r, g0z)) (sz : Nat) : Met l yX6_replaced wsX6_replaced ({ frames := 2, cells := 0, slots := 0, locals := 34 }) (Pc0 G sz [.ref aq0, .int x1, .int x2] (wRow G aq0 n0 g0)) (Qi0 G (va_A (wRow G aq0 n0 g0) sz) r (wRow G aq0 n0 g0z)) 0 0 (va_A (wRow G aq0 n0 g0) sz) := by
  refine metP (Qf := fun A => Qi0 G A r (wRow G aq0 n0 g0z)) cX6_replaced 4 (some .int) (by decide) rfl (Nat.le_of_ble_eq_true rfl) ?_
  intro p e s m below meth c A ls hC hr hlocks hin hE hA hsz hP hD hS hl
  generalize hargs : ([.ref aq0, .int x1, .int x2] : List Value).toArray = args at hC ⊢
  obtain ⟨hx, hb, hml, hown, hts⟩ := id hC
  have hT : va_K G.1 vwCl (tyL G) s := hE.1
  have hRet : ∀ (r9 : Int32) (g09 : Nat → Int32) (H : Heap) (locs : List Loc) (ls : Array Slot) (pc : Nat) (hK9 : (r9, g09) = (r, g0z)) (hdg : decode cX6_replaced pc = .ok (.ireturn, 1)), va_P G.1 vwCl (wRow G aq0 n0 g09) H → va_D A (wRow G aq0 n0 g09) → va_S A s.heap H locs → W p l e ({ frames := 2, cells := 0, slots := 0, locals := 34 }) s m args below meth c H locs 0 0 (MQ below (Qi0 G A r (wRow G aq0 n0 g0z)) args s 0 0 A) (F0 m pc ls [.int r9]) := by
    intro r9 g09 H locs ls pc hK9 hdg hP hD hS
    cases hK9
    exact W.iret hx hb hr (fun t ht hW => ⟨⟨r, (), rfl, rfl, by rw [ht]; exact hP, hD⟩, hS.F ht⟩) hS.2.2 hdg hlocks
  generalize MQ below (Qi0 G A r (wRow G aq0 n0 g0z)) args s 0 0 A = Q at hRet ⊢
  have hl : lv_has ls 4 [(0, .ref aq0), (1, .int x1), (2, .int x2)] := hl
  have hK0 : (r, g0z) = (r, g0z) := rfl
  obtain ⟨res, hres, hK⟩ : ∃ res, p_X6_replaced n0 g0 x1 x2 = some res ∧ res = (r, g0z) := ⟨_, hf, rfl⟩
  clear hf
  have hf := hres
  clear hres
  unfold p_X6_replaced at hf
  refine lv_iload_n hx hb dX6_replaced_0 rfl (lv_at hl 1 rfl) ?_
  refine lv_iconst (v := (nI 0)) hx hb dX6_replaced_1 (ic_0) ?_
  refine lv_aload_n hx hb dX6_replaced_2 rfl (lv_at hl 0 rfl) ?_
  refine va_alen (v := (nI n0)) hx hb hT hP 0 0 rfl rfl rfl dX6_replaced_3 ?_
  refine lv_iconst (v := (nI 1)) hx hb dX6_replaced_4 (ic_1) ?_
  refine lv_isub hx hb dX6_replaced_5 ?_
  obtain ⟨r6, hc6, hf⟩ := bd_e hf
  refine cl_z_ro (Wd := (wRow G aq0 n0 g0)) (Wc := ([] : va_W)) [] rfl (va_runS (As := [.int x1, .int (nI 0), .int ((nI n0) - (nI 1))]) (rest := []) hC (c_X6_isWithin l G x1 (nI 0) ((nI n0) - (nI 1)) r6 hc6 _) (va_cwS 3 hts gX6_replaced_X6_isWithin rfl rfl rfl (by decide +kernel) ⟨Nat.le_of_ble_eq_true rfl, Nat.le_of_ble_eq_true rfl⟩) ⟨Pc0_blind, fun U hU hW => Pc0_at (Wd := ([] : va_W)) hE (hP.subm [] rfl) (hD.sub [] (by decide) rfl) hU hW⟩ rfl rfl hl.1 rfl (lv_room (Nat.le_of_ble_eq_true rfl)) dX6_replaced_6 ⟨Nat.zero_le _, Nat.zero_le _⟩) hS hA hP hD (fun H locs hn6 hP hD hS => ?_)
  refine lv_if_ne (tgt := 14) hx hb dX6_replaced_9 (by decide) (fun hc => ?_) (fun hc => ?_)
  · have hf := if_f hf hc
    refine lv_aload_n hx hb dX6_replaced_14 rfl (lv_at hl 0 rfl) ?_
    refine lv_iload_n hx hb dX6_replaced_15 rfl (lv_at hl 1 rfl) ?_
    obtain ⟨hg, hf⟩ := gd_e hf
    refine va_iald (f := g0) hx hb hT hP 0 0 rfl rfl (inb_e hg) dX6_replaced_16 ?_
    refine lv_istore_n (lv' := [(3, .int (g0 x1.toNatClampNeg)), (0, .ref aq0), (1, .int x1), (2, .int x2)]) hx hb dX6_replaced_17 rfl hl (by decide) rfl (fun ls hl => ?_)
    refine lv_aload_n hx hb dX6_replaced_18 rfl (lv_at hl 1 rfl) ?_
    refine lv_iload_n hx hb dX6_replaced_19 rfl (lv_at hl 2 rfl) ?_
    refine lv_iload_n hx hb dX6_replaced_20 rfl (lv_at hl 3 rfl) ?_
    obtain ⟨hg, hf⟩ := gd_e hf
    refine va_iast (f := g0) hx hb hT hP hD hS 0 0 rfl rfl (inb_e hg) dX6_replaced_21 (fun H locs hP hD hS => ?_)
    have hP : va_P G.1 vwCl (wRow G aq0 n0 (upd g0 x1.toNatClampNeg x2)) H := hP
    have hD : va_D A (wRow G aq0 n0 (upd g0 x1.toNatClampNeg x2)) := hD
    refine lv_iload_n hx hb dX6_replaced_22 rfl (lv_at hl 0 rfl) ?_
    have hK9 := K0_of hf hK
    exact hRet (g0 x1.toNatClampNeg) (upd g0 x1.toNatClampNeg x2) _ _ _ _ hK9 dX6_replaced_23 hP hD hS
  · have hf := if_t hf hc
    refine lv_iconst (v := (-1 : Int32)) hx hb dX6_replaced_12 (ic_m1) ?_
    have hK9 := K0_of hf hK
    exact hRet (-1 : Int32) g0 _ _ _ _ hK9 dX6_replaced_13 hP hD hS
noncomputable def p_X6_alter (f : Mem) (fnow : Mem) (x1 : Int32) (x2 : Int32) (x3 : Int32) : Option (Int32 × Mem) :=
  Option.bind (p_X0_hasGoose fnow x1) <| fun r5 =>
  if r5 = 0 then
    (some ((-1 : Int32), fnow))
  else
    (if x2 = (nI 0) then
       (Option.bind (p_X6_isWithin x3 (nI 0) (nI 3)) <| fun r43 =>
        if r43 = 0 then
          (some ((-1 : Int32), fnow))
        else
          (Option.bind (p_X6_replaced 3 (fnow 1) x1 x3) <| fun (r58, g_58) =>
           some (r58, (mrow 1 (g_58) fnow))))
     else if x2 = (nI 1) then
       (Option.bind (p_X6_isOwner x3) <| fun r67 =>
        if r67 = 0 then
          (some ((-1 : Int32), fnow))
        else
          (Option.bind (p_X6_replaced 3 (fnow 2) x1 x3) <| fun (r82, g_82) =>
           some (r82, (mrow 2 (g_82) fnow))))
     else if x2 = (nI 2) then
       (Option.bind (p_X6_isWithin x3 (nI 1) (nI 9)) <| fun r94 =>
        if r94 = 0 then
          (some ((-1 : Int32), fnow))
        else
          (Option.bind (p_X6_replaced 3 (fnow 3) x1 x3) <| fun (r109, g_109) =>
           some (r109, (mrow 3 (g_109) fnow))))
     else
       (some ((-1 : Int32), fnow)))
set_option maxHeartbeats 4000000 in
set_option maxRecDepth 100000 in
theorem c_X6_alter (l : Launch) (G : Gt) (ad : Nat → Nat) (ado : Nat → Nat → Nat) (f : Mem) (fnow : Mem) (x1 : Int32) (x2 : Int32) (x3 : Int32) (r : Int32) (fnowz : Mem) (hf : p_X6_alter f fnow x1 x2 x3 = some (r, fnowz)) (sz : Nat) : Met l yX6_alter wsX6_alter ({ frames := 3, cells := 0, slots := 0, locals := 57 }) (Pc0 G sz [.ref (ad 0), .int x1, .int x2, .int x3] (wX6 G ad ado f ++ (wX0 G (ado 1) fnow))) (Qi0 G (va_A (wX6 G ad ado f ++ (wX0 G (ado 1) fnow)) sz) r (wX6 G ad ado f ++ (wX0 G (ado 1) fnowz))) 0 0 (va_A (wX6 G ad ado f ++ (wX0 G (ado 1) fnow)) sz) := by
  refine metP (Qf := fun A => Qi0 G A r (wX6 G ad ado f ++ (wX0 G (ado 1) fnowz))) cX6_alter 4 (some .int) (by decide) rfl (Nat.le_of_ble_eq_true rfl) ?_
  intro p e s m below meth c A ls hC hr hlocks hin hE hA hsz hP hD hS hl
  generalize hargs : ([.ref (ad 0), .int x1, .int x2, .int x3] : List Value).toArray = args at hC ⊢
  obtain ⟨hx, hb, hml, hown, hts⟩ := id hC
  have hT : va_K G.1 vwCl (tyL G) s := hE.1
  have hRet : ∀ (r9 : Int32) (fnow9 : Mem) (H : Heap) (locs : List Loc) (ls : Array Slot) (pc : Nat) (hK9 : (r9, fnow9) = (r, fnowz)) (hdg : decode cX6_alter pc = .ok (.ireturn, 1)), va_P G.1 vwCl (wX6 G ad ado f ++ (wX0 G (ado 1) fnow9)) H → va_D A (wX6 G ad ado f ++ (wX0 G (ado 1) fnow9)) → va_S A s.heap H locs → W p l e ({ frames := 3, cells := 0, slots := 0, locals := 57 }) s m args below meth c H locs 0 0 (MQ below (Qi0 G A r (wX6 G ad ado f ++ (wX0 G (ado 1) fnowz))) args s 0 0 A) (F0 m pc ls [.int r9]) := by
    intro r9 fnow9 H locs ls pc hK9 hdg hP hD hS
    cases hK9
    exact W.iret hx hb hr (fun t ht hW => ⟨⟨r, (), rfl, rfl, by rw [ht]; exact hP, hD⟩, hS.F ht⟩) hS.2.2 hdg hlocks
  generalize MQ below (Qi0 G A r (wX6 G ad ado f ++ (wX0 G (ado 1) fnowz))) args s 0 0 A = Q at hRet ⊢
  have lk12 := hts (.fieldLink RX6 12 "FeatherShares" "now" "LFeatherShares$Flock;") (by decide +kernel)
  have inX6 : ∀ w ∈ u_ws RX6 TX6 11, w ∈ wsX6_alter := by decide +kernel
  have lk129 := va_Nw.use (A := args) rfl (hE.2.1 (RX6, 129, "FeatherShares$Flock", "kind", "[I", "FeatherShares") (List.mem_of_getElem? (i := 11) rfl))
  have inX0 : ∀ w ∈ u_ws RX0 TX0 13, w ∈ wsX6_alter := by decide +kernel
  have lk132 := va_Nw.use (A := args) rfl (hE.2.1 (RX6, 132, "FeatherShares$Flock", "skin", "[I", "FeatherShares") (List.mem_of_getElem? (i := 12) rfl))
  have lk135 := va_Nw.use (A := args) rfl (hE.2.1 (RX6, 135, "FeatherShares$Flock", "price", "[I", "FeatherShares") (List.mem_of_getElem? (i := 13) rfl))
  have hl : lv_has ls 4 [(0, .ref (ad 0)), (1, .int x1), (2, .int x2), (3, .int x3)] := hl
  have hK0 : (r, fnowz) = (r, fnowz) := rfl
  obtain ⟨res, hres, hK⟩ : ∃ res, p_X6_alter f fnow x1 x2 x3 = some res ∧ res = (r, fnowz) := ⟨_, hf, rfl⟩
  clear hf
  have hf := hres
  clear hres
  unfold p_X6_alter at hf
  refine lv_aload_n hx hb dX6_alter_0 rfl (lv_at hl 0 rfl) ?_
  refine va_get (C := RX6) (T := TX6) (N := 11) (ci := 6) (v := .ref ((ado 1) 0)) hx hb hts inX6 hown hT hP 0 rfl rfl 0 (Nat.le_of_ble_eq_true rfl) lk12 (fun _ h => h) rfl dX6_alter_1 ?_
  refine lv_iload_n hx hb dX6_alter_4 rfl (lv_at hl 1 rfl) ?_
  obtain ⟨r5, hc5, hf⟩ := bd_e hf
  refine cl_z_ro (Wd := (wX6 G ad ado f ++ (wX0 G (ado 1) fnow))) (Wc := (wX0 G (ado 1) fnow)) [4, 5, 6, 7, 8, 9, 10, 11, 12, 13, 14] rfl (va_runVN (As := [.int x1]) (rest := []) hC (c_X0_hasGoose l G (ado 1) fnow x1 r5 hc5 _) ⟨va_cnB 1 hts gX6_alter_X0_hasGoose_n126 rfl rfl rfl (hE.2.2 (RX6, 126, yX0_hasGoose, "FeatherShares") (List.mem_of_getElem? (i := 10) rfl)) (hts (.initialized RX0) (by decide +kernel)) (by decide +kernel) ⟨Nat.le_of_ble_eq_true rfl, Nat.le_of_ble_eq_true rfl⟩, hts (.instanceMethod yX0_hasGoose) (by decide +kernel), hts (.selects RX0 yX0_hasGoose yX0_hasGoose) (by decide +kernel)⟩ ⟨Pc0_blind, va_recv hT hP (q0 := 4) (ci := 0) rfl rfl, fun U hU hW => Pc0_at (Wd := (wX0 G (ado 1) fnow)) hE (hP.subm [4, 5, 6, 7, 8, 9, 10, 11, 12, 13, 14] rfl) (hD.sub [4, 5, 6, 7, 8, 9, 10, 11, 12, 13, 14] (by decide) rfl) hU hW⟩ rfl rfl hl.1 rfl (lv_room (Nat.le_of_ble_eq_true rfl)) dX6_alter_5 ⟨Nat.zero_le _, Nat.zero_le _⟩) hS hA hP hD (fun H locs hn5 hP hD hS => ?_)
  refine lv_if_ne (tgt := 13) hx hb dX6_alter_8 (by decide) (fun hc => ?_) (fun hc => ?_)
  · have hf := if_f hf hc
    refine lv_iload_n hx hb dX6_alter_13 rfl (lv_at hl 2 rfl) ?_
    by_cases hs0 : x2 = (nI 0)
    · have hf := if_t hf hs0
      refine lv_tableIn (tgt := 40) hx hb dX6_alter_14 (by rw [hs0]; decide) (by rw [hs0]; decide) (by rw [hs0]; rfl) (by decide) ?_
      refine lv_iload_n hx hb dX6_alter_40 rfl (lv_at hl 3 rfl) ?_
      refine lv_iconst (v := (nI 0)) hx hb dX6_alter_41 (ic_0) ?_
      refine lv_iconst (v := (nI 3)) hx hb dX6_alter_42 (ic_3) ?_
      obtain ⟨r43, hc43, hf⟩ := bd_e hf
      refine cl_z_ro (Wd := (wX6 G ad ado f ++ (wX0 G (ado 1) fnow))) (Wc := ([] : va_W)) [] rfl (va_runS (As := [.int x3, .int (nI 0), .int (nI 3)]) (rest := []) hC (c_X6_isWithin l G x3 (nI 0) (nI 3) r43 hc43 _) (va_cwS 3 hts gX6_alter_X6_isWithin rfl rfl rfl (by decide +kernel) ⟨Nat.le_of_ble_eq_true rfl, Nat.le_of_ble_eq_true rfl⟩) ⟨Pc0_blind, fun U hU hW => Pc0_at (Wd := ([] : va_W)) hE (hP.subm [] rfl) (hD.sub [] (by decide) rfl) hU hW⟩ rfl rfl hl.1 rfl (lv_room (Nat.le_of_ble_eq_true rfl)) dX6_alter_43 ⟨Nat.zero_le _, Nat.zero_le _⟩) hS hA hP hD (fun H locs hn43 hP hD hS => ?_)
      refine lv_if_eq (tgt := 64) hx hb dX6_alter_46 (by decide) (fun hc => ?_) (fun hc => ?_)
      · have hf := if_t hf hc
        refine lv_iconst (v := (-1 : Int32)) hx hb dX6_alter_64 (ic_m1) ?_
        have hK9 := K0_of hf hK
        exact hRet (-1 : Int32) fnow _ _ _ _ hK9 dX6_alter_65 hP hD hS
      · have hf := if_f hf hc
        refine lv_aload_n hx hb dX6_alter_49 rfl (lv_at hl 0 rfl) ?_
        refine va_get (C := RX6) (T := TX6) (N := 11) (ci := 6) (v := .ref ((ado 1) 0)) hx hb hts inX6 hown hT hP 0 rfl rfl 0 (Nat.le_of_ble_eq_true rfl) lk12 (fun _ h => h) rfl dX6_alter_50 ?_
        refine va_getN (C := RX0) (T := TX0) (N := 13) (ci := 0) (v := .ref ((ado 1) 1)) hx hb hts inX0 hown hT hP 4 rfl rfl 3 (Nat.le_of_ble_eq_true rfl) lk129 (fun _ h => h) rfl dX6_alter_53 ?_
        refine lv_iload_n hx hb dX6_alter_56 rfl (lv_at hl 1 rfl) ?_
        refine lv_iload_n hx hb dX6_alter_57 rfl (lv_at hl 3 rfl) ?_
        obtain ⟨⟨r58, g_58⟩, hc58, hf⟩ := bd_e hf
        try dsimp only at hf
        refine cl_i_up (Wd := (wX6 G ad ado f ++ (wX0 G (ado 1) fnow))) (Wc := (wRow G ((ado 1) 1) 3 (fnow 1))) (W' := (wRow G ((ado 1) 1) 3 g_58)) (W2 := (wX6 G ad ado f ++ (wX0 G (ado 1) (mrow 1 (g_58) fnow)))) [5] [0, 1, 2, 3, 4, 6, 7, 8, 9, 10, 11, 12, 13, 14] rfl rfl rfl rfl rfl (va_runS (As := [.ref ((ado 1) 1), .int x1, .int x3]) (rest := []) hC (c_X6_replaced l G ((ado 1) 1) 3 (fnow 1) x1 x3 r58 g_58 hc58 _) (va_cwS 3 hts gX6_alter_X6_replaced rfl rfl rfl (by decide +kernel) ⟨Nat.le_of_ble_eq_true rfl, Nat.le_of_ble_eq_true rfl⟩) ⟨Pc0_blind, fun U hU hW => Pc0_at (Wd := (wRow G ((ado 1) 1) 3 (fnow 1))) hE (hP.subm [5] rfl) (hD.sub [5] (by decide) rfl) hU hW⟩ rfl rfl hl.1 rfl (lv_room (Nat.le_of_ble_eq_true rfl)) dX6_alter_58 ⟨Nat.zero_le _, Nat.zero_le _⟩) hS hA hP hD (fun H locs hP hD hS => ?_)
        refine lv_goto (tgt := 65) hx hb dX6_alter_61 (by decide) ?_
        have hK9 := K0_of hf hK
        exact hRet r58 (mrow 1 (g_58) fnow) _ _ _ _ hK9 dX6_alter_65 hP hD hS
    have hf := if_f hf hs0
    by_cases hs1 : x2 = (nI 1)
    · have hf := if_t hf hs1
      refine lv_tableIn (tgt := 66) hx hb dX6_alter_14 (by rw [hs1]; decide) (by rw [hs1]; decide) (by rw [hs1]; rfl) (by decide) ?_
      refine lv_iload_n hx hb dX6_alter_66 rfl (lv_at hl 3 rfl) ?_
      obtain ⟨r67, hc67, hf⟩ := bd_e hf
      refine cl_z_ro (Wd := (wX6 G ad ado f ++ (wX0 G (ado 1) fnow))) (Wc := ([] : va_W)) [] rfl (va_runS (As := [.int x3]) (rest := []) hC (c_X6_isOwner l G x3 r67 hc67 _) (va_cwS 1 hts gX6_alter_X6_isOwner rfl rfl rfl (by decide +kernel) ⟨Nat.le_of_ble_eq_true rfl, Nat.le_of_ble_eq_true rfl⟩) ⟨Pc0_blind, fun U hU hW => Pc0_at (Wd := ([] : va_W)) hE (hP.subm [] rfl) (hD.sub [] (by decide) rfl) hU hW⟩ rfl rfl hl.1 rfl (lv_room (Nat.le_of_ble_eq_true rfl)) dX6_alter_67 ⟨Nat.zero_le _, Nat.zero_le _⟩) hS hA hP hD (fun H locs hn67 hP hD hS => ?_)
      refine lv_if_eq (tgt := 88) hx hb dX6_alter_70 (by decide) (fun hc => ?_) (fun hc => ?_)
      · have hf := if_t hf hc
        refine lv_iconst (v := (-1 : Int32)) hx hb dX6_alter_88 (ic_m1) ?_
        have hK9 := K0_of hf hK
        exact hRet (-1 : Int32) fnow _ _ _ _ hK9 dX6_alter_89 hP hD hS
      · have hf := if_f hf hc
        refine lv_aload_n hx hb dX6_alter_73 rfl (lv_at hl 0 rfl) ?_
        refine va_get (C := RX6) (T := TX6) (N := 11) (ci := 6) (v := .ref ((ado 1) 0)) hx hb hts inX6 hown hT hP 0 rfl rfl 0 (Nat.le_of_ble_eq_true rfl) lk12 (fun _ h => h) rfl dX6_alter_74 ?_
        refine va_getN (C := RX0) (T := TX0) (N := 13) (ci := 0) (v := .ref ((ado 1) 2)) hx hb hts inX0 hown hT hP 4 rfl rfl 4 (Nat.le_of_ble_eq_true rfl) lk132 (fun _ h => h) rfl dX6_alter_77 ?_
        refine lv_iload_n hx hb dX6_alter_80 rfl (lv_at hl 1 rfl) ?_
        refine lv_iload_n hx hb dX6_alter_81 rfl (lv_at hl 3 rfl) ?_
        obtain ⟨⟨r82, g_82⟩, hc82, hf⟩ := bd_e hf
        try dsimp only at hf
        refine cl_i_up (Wd := (wX6 G ad ado f ++ (wX0 G (ado 1) fnow))) (Wc := (wRow G ((ado 1) 2) 3 (fnow 2))) (W' := (wRow G ((ado 1) 2) 3 g_82)) (W2 := (wX6 G ad ado f ++ (wX0 G (ado 1) (mrow 2 (g_82) fnow)))) [6] [0, 1, 2, 3, 4, 5, 7, 8, 9, 10, 11, 12, 13, 14] rfl rfl rfl rfl rfl (va_runS (As := [.ref ((ado 1) 2), .int x1, .int x3]) (rest := []) hC (c_X6_replaced l G ((ado 1) 2) 3 (fnow 2) x1 x3 r82 g_82 hc82 _) (va_cwS 3 hts gX6_alter_X6_replaced rfl rfl rfl (by decide +kernel) ⟨Nat.le_of_ble_eq_true rfl, Nat.le_of_ble_eq_true rfl⟩) ⟨Pc0_blind, fun U hU hW => Pc0_at (Wd := (wRow G ((ado 1) 2) 3 (fnow 2))) hE (hP.subm [6] rfl) (hD.sub [6] (by decide) rfl) hU hW⟩ rfl rfl hl.1 rfl (lv_room (Nat.le_of_ble_eq_true rfl)) dX6_alter_82 ⟨Nat.zero_le _, Nat.zero_le _⟩) hS hA hP hD (fun H locs hP hD hS => ?_)
        refine lv_goto (tgt := 89) hx hb dX6_alter_85 (by decide) ?_
        have hK9 := K0_of hf hK
        exact hRet r82 (mrow 2 (g_82) fnow) _ _ _ _ hK9 dX6_alter_89 hP hD hS
    have hf := if_f hf hs1
    by_cases hs2 : x2 = (nI 2)
    · have hf := if_t hf hs2
      refine lv_tableIn (tgt := 90) hx hb dX6_alter_14 (by rw [hs2]; decide) (by rw [hs2]; decide) (by rw [hs2]; rfl) (by decide) ?_
      refine lv_iload_n hx hb dX6_alter_90 rfl (lv_at hl 3 rfl) ?_
      refine lv_iconst (v := (nI 1)) hx hb dX6_alter_91 (ic_1) ?_
      refine lv_bipush (v := (nI 9)) hx hb dX6_alter_92 (bi_9) ?_
      obtain ⟨r94, hc94, hf⟩ := bd_e hf
      refine cl_z_ro (Wd := (wX6 G ad ado f ++ (wX0 G (ado 1) fnow))) (Wc := ([] : va_W)) [] rfl (va_runS (As := [.int x3, .int (nI 1), .int (nI 9)]) (rest := []) hC (c_X6_isWithin l G x3 (nI 1) (nI 9) r94 hc94 _) (va_cwS 3 hts gX6_alter_X6_isWithin rfl rfl rfl (by decide +kernel) ⟨Nat.le_of_ble_eq_true rfl, Nat.le_of_ble_eq_true rfl⟩) ⟨Pc0_blind, fun U hU hW => Pc0_at (Wd := ([] : va_W)) hE (hP.subm [] rfl) (hD.sub [] (by decide) rfl) hU hW⟩ rfl rfl hl.1 rfl (lv_room (Nat.le_of_ble_eq_true rfl)) dX6_alter_94 ⟨Nat.zero_le _, Nat.zero_le _⟩) hS hA hP hD (fun H locs hn94 hP hD hS => ?_)
      refine lv_if_eq (tgt := 115) hx hb dX6_alter_97 (by decide) (fun hc => ?_) (fun hc => ?_)
      · have hf := if_t hf hc
        refine lv_iconst (v := (-1 : Int32)) hx hb dX6_alter_115 (ic_m1) ?_
        have hK9 := K0_of hf hK
        exact hRet (-1 : Int32) fnow _ _ _ _ hK9 dX6_alter_116 hP hD hS
      · have hf := if_f hf hc
        refine lv_aload_n hx hb dX6_alter_100 rfl (lv_at hl 0 rfl) ?_
        refine va_get (C := RX6) (T := TX6) (N := 11) (ci := 6) (v := .ref ((ado 1) 0)) hx hb hts inX6 hown hT hP 0 rfl rfl 0 (Nat.le_of_ble_eq_true rfl) lk12 (fun _ h => h) rfl dX6_alter_101 ?_
        refine va_getN (C := RX0) (T := TX0) (N := 13) (ci := 0) (v := .ref ((ado 1) 3)) hx hb hts inX0 hown hT hP 4 rfl rfl 5 (Nat.le_of_ble_eq_true rfl) lk135 (fun _ h => h) rfl dX6_alter_104 ?_
        refine lv_iload_n hx hb dX6_alter_107 rfl (lv_at hl 1 rfl) ?_
        refine lv_iload_n hx hb dX6_alter_108 rfl (lv_at hl 3 rfl) ?_
        obtain ⟨⟨r109, g_109⟩, hc109, hf⟩ := bd_e hf
        try dsimp only at hf
        refine cl_i_up (Wd := (wX6 G ad ado f ++ (wX0 G (ado 1) fnow))) (Wc := (wRow G ((ado 1) 3) 3 (fnow 3))) (W' := (wRow G ((ado 1) 3) 3 g_109)) (W2 := (wX6 G ad ado f ++ (wX0 G (ado 1) (mrow 3 (g_109) fnow)))) [7] [0, 1, 2, 3, 4, 5, 6, 8, 9, 10, 11, 12, 13, 14] rfl rfl rfl rfl rfl (va_runS (As := [.ref ((ado 1) 3), .int x1, .int x3]) (rest := []) hC (c_X6_replaced l G ((ado 1) 3) 3 (fnow 3) x1 x3 r109 g_109 hc109 _) (va_cwS 3 hts gX6_alter_X6_replaced rfl rfl rfl (by decide +kernel) ⟨Nat.le_of_ble_eq_true rfl, Nat.le_of_ble_eq_true rfl⟩) ⟨Pc0_blind, fun U hU hW => Pc0_at (Wd := (wRow G ((ado 1) 3) 3 (fnow 3))) hE (hP.subm [7] rfl) (hD.sub [7] (by decide) rfl) hU hW⟩ rfl rfl hl.1 rfl (lv_room (Nat.le_of_ble_eq_true rfl)) dX6_alter_109 ⟨Nat.zero_le _, Nat.zero_le _⟩) hS hA hP hD (fun H locs hP hD hS => ?_)
        refine lv_goto (tgt := 116) hx hb dX6_alter_112 (by decide) ?_
        have hK9 := K0_of hf hK
        exact hRet r109 (mrow 3 (g_109) fnow) _ _ _ _ hK9 dX6_alter_116 hP hD hS
    have hf := if_f hf hs2
    have hout : x2.toInt < 0 ∨ 2 < x2.toInt := by
      have t0 := ne_int hs0 (by decide)
      have t1 := ne_int hs1 (by decide)
      have t2 := ne_int hs2 (by decide)
      omega
    refine lv_tableOut (tgt := 117) hx hb dX6_alter_14 hout (by decide) ?_
    refine lv_iconst (v := (-1 : Int32)) hx hb dX6_alter_117 (ic_m1) ?_
    have hK9 := K0_of hf hK
    exact hRet (-1 : Int32) fnow _ _ _ _ hK9 dX6_alter_118 hP hD hS
  · have hf := if_t hf hc
    refine lv_iconst (v := (-1 : Int32)) hx hb dX6_alter_11 (ic_m1) ?_
    have hK9 := K0_of hf hK
    exact hRet (-1 : Int32) fnow _ _ _ _ hK9 dX6_alter_12 hP hD hS
noncomputable def p_X6_purse (f : Mem) (fnow : Mem) (x1 : Int32) (x2 : Int32) : Option (Int32 × Mem) :=
  Option.bind (p_X6_isOwner x1) <| fun r1 =>
  if r1 = 0 then
    (some ((-1 : Int32), fnow))
  else
    (Option.bind (p_X6_isWithin x2 (nI 0) (nI 999)) <| fun r12 =>
     if r12 = 0 then
       (some ((-1 : Int32), fnow))
     else
       (Option.bind (p_X6_replaced 5 (fnow 5) x1 x2) <| fun (r27, g_27) =>
        some (r27, (mrow 5 (g_27) fnow))))
set_option maxHeartbeats 4000000 in
set_option maxRecDepth 100000 in
theorem c_X6_purse (l : Launch) (G : Gt) (ad : Nat → Nat) (ado : Nat → Nat → Nat) (f : Mem) (fnow : Mem) (x1 : Int32) (x2 : Int32) (r : Int32) (fnowz : Mem) (hf : p_X6_purse f fnow x1 x2 = some (r, fnowz)) (sz : Nat) : Met l yX6_purse wsX6_purse ({ frames := 3, cells := 0, slots := 0, locals := 57 }) (Pc0 G sz [.ref (ad 0), .int x1, .int x2] (wX6 G ad ado f ++ (wX0 G (ado 1) fnow))) (Qi0 G (va_A (wX6 G ad ado f ++ (wX0 G (ado 1) fnow)) sz) r (wX6 G ad ado f ++ (wX0 G (ado 1) fnowz))) 0 0 (va_A (wX6 G ad ado f ++ (wX0 G (ado 1) fnow)) sz) := by
  refine metP (Qf := fun A => Qi0 G A r (wX6 G ad ado f ++ (wX0 G (ado 1) fnowz))) cX6_purse 3 (some .int) (by decide) rfl (Nat.le_of_ble_eq_true rfl) ?_
  intro p e s m below meth c A ls hC hr hlocks hin hE hA hsz hP hD hS hl
  generalize hargs : ([.ref (ad 0), .int x1, .int x2] : List Value).toArray = args at hC ⊢
  obtain ⟨hx, hb, hml, hown, hts⟩ := id hC
  have hT : va_K G.1 vwCl (tyL G) s := hE.1
  have hRet : ∀ (r9 : Int32) (fnow9 : Mem) (H : Heap) (locs : List Loc) (ls : Array Slot) (pc : Nat) (hK9 : (r9, fnow9) = (r, fnowz)) (hdg : decode cX6_purse pc = .ok (.ireturn, 1)), va_P G.1 vwCl (wX6 G ad ado f ++ (wX0 G (ado 1) fnow9)) H → va_D A (wX6 G ad ado f ++ (wX0 G (ado 1) fnow9)) → va_S A s.heap H locs → W p l e ({ frames := 3, cells := 0, slots := 0, locals := 57 }) s m args below meth c H locs 0 0 (MQ below (Qi0 G A r (wX6 G ad ado f ++ (wX0 G (ado 1) fnowz))) args s 0 0 A) (F0 m pc ls [.int r9]) := by
    intro r9 fnow9 H locs ls pc hK9 hdg hP hD hS
    cases hK9
    exact W.iret hx hb hr (fun t ht hW => ⟨⟨r, (), rfl, rfl, by rw [ht]; exact hP, hD⟩, hS.F ht⟩) hS.2.2 hdg hlocks
  generalize MQ below (Qi0 G A r (wX6 G ad ado f ++ (wX0 G (ado 1) fnowz))) args s 0 0 A = Q at hRet ⊢
  have lk12 := hts (.fieldLink RX6 12 "FeatherShares" "now" "LFeatherShares$Flock;") (by decide +kernel)
  have inX6 : ∀ w ∈ u_ws RX6 TX6 11, w ∈ wsX6_purse := by decide +kernel
  have lk112 := va_Nw.use (A := args) rfl (hE.2.1 (RX6, 112, "FeatherShares$Flock", "money", "[I", "FeatherShares") (List.mem_of_getElem? (i := 9) rfl))
  have inX0 : ∀ w ∈ u_ws RX0 TX0 13, w ∈ wsX6_purse := by decide +kernel
  have hl : lv_has ls 3 [(0, .ref (ad 0)), (1, .int x1), (2, .int x2)] := hl
  have hK0 : (r, fnowz) = (r, fnowz) := rfl
  obtain ⟨res, hres, hK⟩ : ∃ res, p_X6_purse f fnow x1 x2 = some res ∧ res = (r, fnowz) := ⟨_, hf, rfl⟩
  clear hf
  have hf := hres
  clear hres
  unfold p_X6_purse at hf
  refine lv_iload_n hx hb dX6_purse_0 rfl (lv_at hl 1 rfl) ?_
  obtain ⟨r1, hc1, hf⟩ := bd_e hf
  refine cl_z_ro (Wd := (wX6 G ad ado f ++ (wX0 G (ado 1) fnow))) (Wc := ([] : va_W)) [] rfl (va_runS (As := [.int x1]) (rest := []) hC (c_X6_isOwner l G x1 r1 hc1 _) (va_cwS 1 hts gX6_purse_X6_isOwner rfl rfl rfl (by decide +kernel) ⟨Nat.le_of_ble_eq_true rfl, Nat.le_of_ble_eq_true rfl⟩) ⟨Pc0_blind, fun U hU hW => Pc0_at (Wd := ([] : va_W)) hE (hP.subm [] rfl) (hD.sub [] (by decide) rfl) hU hW⟩ rfl rfl hl.1 rfl (lv_room (Nat.le_of_ble_eq_true rfl)) dX6_purse_1 ⟨Nat.zero_le _, Nat.zero_le _⟩) hS hA hP hD (fun H locs hn1 hP hD hS => ?_)
  refine lv_if_eq (tgt := 33) hx hb dX6_purse_4 (by decide) (fun hc => ?_) (fun hc => ?_)
  · have hf := if_t hf hc
    refine lv_iconst (v := (-1 : Int32)) hx hb dX6_purse_33 (ic_m1) ?_
    have hK9 := K0_of hf hK
    exact hRet (-1 : Int32) fnow _ _ _ _ hK9 dX6_purse_34 hP hD hS
  · have hf := if_f hf hc
    refine lv_iload_n hx hb dX6_purse_7 rfl (lv_at hl 2 rfl) ?_
    refine lv_iconst (v := (nI 0)) hx hb dX6_purse_8 (ic_0) ?_
    refine lv_sipush (v := (nI 999)) hx hb dX6_purse_9 (si_999) ?_
    obtain ⟨r12, hc12, hf⟩ := bd_e hf
    refine cl_z_ro (Wd := (wX6 G ad ado f ++ (wX0 G (ado 1) fnow))) (Wc := ([] : va_W)) [] rfl (va_runS (As := [.int x2, .int (nI 0), .int (nI 999)]) (rest := []) hC (c_X6_isWithin l G x2 (nI 0) (nI 999) r12 hc12 _) (va_cwS 3 hts gX6_purse_X6_isWithin rfl rfl rfl (by decide +kernel) ⟨Nat.le_of_ble_eq_true rfl, Nat.le_of_ble_eq_true rfl⟩) ⟨Pc0_blind, fun U hU hW => Pc0_at (Wd := ([] : va_W)) hE (hP.subm [] rfl) (hD.sub [] (by decide) rfl) hU hW⟩ rfl rfl hl.1 rfl (lv_room (Nat.le_of_ble_eq_true rfl)) dX6_purse_12 ⟨Nat.zero_le _, Nat.zero_le _⟩) hS hA hP hD (fun H locs hn12 hP hD hS => ?_)
    refine lv_if_eq (tgt := 33) hx hb dX6_purse_15 (by decide) (fun hc => ?_) (fun hc => ?_)
    · have hf := if_t hf hc
      refine lv_iconst (v := (-1 : Int32)) hx hb dX6_purse_33 (ic_m1) ?_
      have hK9 := K0_of hf hK
      exact hRet (-1 : Int32) fnow _ _ _ _ hK9 dX6_purse_34 hP hD hS
    · have hf := if_f hf hc
      refine lv_aload_n hx hb dX6_purse_18 rfl (lv_at hl 0 rfl) ?_
      refine va_get (C := RX6) (T := TX6) (N := 11) (ci := 6) (v := .ref ((ado 1) 0)) hx hb hts inX6 hown hT hP 0 rfl rfl 0 (Nat.le_of_ble_eq_true rfl) lk12 (fun _ h => h) rfl dX6_purse_19 ?_
      refine va_getN (C := RX0) (T := TX0) (N := 13) (ci := 0) (v := .ref ((ado 1) 5)) hx hb hts inX0 hown hT hP 4 rfl rfl 7 (Nat.le_of_ble_eq_true rfl) lk112 (fun _ h => h) rfl dX6_purse_22 ?_
      refine lv_iload_n hx hb dX6_purse_25 rfl (lv_at hl 1 rfl) ?_
      refine lv_iload_n hx hb dX6_purse_26 rfl (lv_at hl 2 rfl) ?_
      obtain ⟨⟨r27, g_27⟩, hc27, hf⟩ := bd_e hf
      try dsimp only at hf
      refine cl_i_up (Wd := (wX6 G ad ado f ++ (wX0 G (ado 1) fnow))) (Wc := (wRow G ((ado 1) 5) 5 (fnow 5))) (W' := (wRow G ((ado 1) 5) 5 g_27)) (W2 := (wX6 G ad ado f ++ (wX0 G (ado 1) (mrow 5 (g_27) fnow)))) [9] [0, 1, 2, 3, 4, 5, 6, 7, 8, 10, 11, 12, 13, 14] rfl rfl rfl rfl rfl (va_runS (As := [.ref ((ado 1) 5), .int x1, .int x2]) (rest := []) hC (c_X6_replaced l G ((ado 1) 5) 5 (fnow 5) x1 x2 r27 g_27 hc27 _) (va_cwS 3 hts gX6_purse_X6_replaced rfl rfl rfl (by decide +kernel) ⟨Nat.le_of_ble_eq_true rfl, Nat.le_of_ble_eq_true rfl⟩) ⟨Pc0_blind, fun U hU hW => Pc0_at (Wd := (wRow G ((ado 1) 5) 5 (fnow 5))) hE (hP.subm [9] rfl) (hD.sub [9] (by decide) rfl) hU hW⟩ rfl rfl hl.1 rfl (lv_room (Nat.le_of_ble_eq_true rfl)) dX6_purse_27 ⟨Nat.zero_le _, Nat.zero_le _⟩) hS hA hP hD (fun H locs hP hD hS => ?_)
      refine lv_goto (tgt := 34) hx hb dX6_purse_30 (by decide) ?_
      have hK9 := K0_of hf hK
      exact hRet r27 (mrow 5 (g_27) fnow) _ _ _ _ hK9 dX6_purse_34 hP hD hS
noncomputable def p_X6_grant (f : Mem) (fnow : Mem) (x1 : Int32) (x2 : Int32) (x3 : Int32) : Option (Int32 × Mem) :=
  Option.bind (p_X0_hasGoose fnow x1) <| fun r5 =>
  if r5 = 0 then
    (some ((-1 : Int32), fnow))
  else
    (Option.bind (p_X6_isOwner x2) <| fun r12 =>
     if r12 = 0 then
       (some ((-1 : Int32), fnow))
     else
       (Option.bind (p_X6_isWithin x3 (nI 0) (nI 99)) <| fun r22 =>
        if r22 = 0 then
          (some ((-1 : Int32), fnow))
        else
          (Option.bind (p_X6_replaced 15 (fnow 4) ((x1 * (nI 5)) + x2) x3) <| fun (r43, g_43) =>
           some (r43, (mrow 4 (g_43) fnow)))))
set_option maxHeartbeats 4000000 in
set_option maxRecDepth 100000 in
theorem c_X6_grant (l : Launch) (G : Gt) (ad : Nat → Nat) (ado : Nat → Nat → Nat) (f : Mem) (fnow : Mem) (x1 : Int32) (x2 : Int32) (x3 : Int32) (r : Int32) (fnowz : Mem) (hf : p_X6_grant f fnow x1 x2 x3 = some (r, fnowz)) (sz : Nat) : Met l yX6_grant wsX6_grant ({ frames := 3, cells := 0, slots := 0, locals := 57 }) (Pc0 G sz [.ref (ad 0), .int x1, .int x2, .int x3] (wX6 G ad ado f ++ (wX0 G (ado 1) fnow))) (Qi0 G (va_A (wX6 G ad ado f ++ (wX0 G (ado 1) fnow)) sz) r (wX6 G ad ado f ++ (wX0 G (ado 1) fnowz))) 0 0 (va_A (wX6 G ad ado f ++ (wX0 G (ado 1) fnow)) sz) := by
  refine metP (Qf := fun A => Qi0 G A r (wX6 G ad ado f ++ (wX0 G (ado 1) fnowz))) cX6_grant 4 (some .int) (by decide) rfl (Nat.le_of_ble_eq_true rfl) ?_
  intro p e s m below meth c A ls hC hr hlocks hin hE hA hsz hP hD hS hl
  generalize hargs : ([.ref (ad 0), .int x1, .int x2, .int x3] : List Value).toArray = args at hC ⊢
  obtain ⟨hx, hb, hml, hown, hts⟩ := id hC
  have hT : va_K G.1 vwCl (tyL G) s := hE.1
  have hRet : ∀ (r9 : Int32) (fnow9 : Mem) (H : Heap) (locs : List Loc) (ls : Array Slot) (pc : Nat) (hK9 : (r9, fnow9) = (r, fnowz)) (hdg : decode cX6_grant pc = .ok (.ireturn, 1)), va_P G.1 vwCl (wX6 G ad ado f ++ (wX0 G (ado 1) fnow9)) H → va_D A (wX6 G ad ado f ++ (wX0 G (ado 1) fnow9)) → va_S A s.heap H locs → W p l e ({ frames := 3, cells := 0, slots := 0, locals := 57 }) s m args below meth c H locs 0 0 (MQ below (Qi0 G A r (wX6 G ad ado f ++ (wX0 G (ado 1) fnowz))) args s 0 0 A) (F0 m pc ls [.int r9]) := by
    intro r9 fnow9 H locs ls pc hK9 hdg hP hD hS
    cases hK9
    exact W.iret hx hb hr (fun t ht hW => ⟨⟨r, (), rfl, rfl, by rw [ht]; exact hP, hD⟩, hS.F ht⟩) hS.2.2 hdg hlocks
  generalize MQ below (Qi0 G A r (wX6 G ad ado f ++ (wX0 G (ado 1) fnowz))) args s 0 0 A = Q at hRet ⊢
  have lk12 := hts (.fieldLink RX6 12 "FeatherShares" "now" "LFeatherShares$Flock;") (by decide +kernel)
  have inX6 : ∀ w ∈ u_ws RX6 TX6 11, w ∈ wsX6_grant := by decide +kernel
  have lk171 := va_Nw.use (A := args) rfl (hE.2.1 (RX6, 171, "FeatherShares$Flock", "feathers", "[I", "FeatherShares") (List.mem_of_getElem? (i := 18) rfl))
  have inX0 : ∀ w ∈ u_ws RX0 TX0 13, w ∈ wsX6_grant := by decide +kernel
  have hl : lv_has ls 4 [(0, .ref (ad 0)), (1, .int x1), (2, .int x2), (3, .int x3)] := hl
  have hK0 : (r, fnowz) = (r, fnowz) := rfl
  obtain ⟨res, hres, hK⟩ : ∃ res, p_X6_grant f fnow x1 x2 x3 = some res ∧ res = (r, fnowz) := ⟨_, hf, rfl⟩
  clear hf
  have hf := hres
  clear hres
  unfold p_X6_grant at hf
  refine lv_aload_n hx hb dX6_grant_0 rfl (lv_at hl 0 rfl) ?_
  refine va_get (C := RX6) (T := TX6) (N := 11) (ci := 6) (v := .ref ((ado 1) 0)) hx hb hts inX6 hown hT hP 0 rfl rfl 0 (Nat.le_of_ble_eq_true rfl) lk12 (fun _ h => h) rfl dX6_grant_1 ?_
  refine lv_iload_n hx hb dX6_grant_4 rfl (lv_at hl 1 rfl) ?_
  obtain ⟨r5, hc5, hf⟩ := bd_e hf
  refine cl_z_ro (Wd := (wX6 G ad ado f ++ (wX0 G (ado 1) fnow))) (Wc := (wX0 G (ado 1) fnow)) [4, 5, 6, 7, 8, 9, 10, 11, 12, 13, 14] rfl (va_runVN (As := [.int x1]) (rest := []) hC (c_X0_hasGoose l G (ado 1) fnow x1 r5 hc5 _) ⟨va_cnB 1 hts gX6_grant_X0_hasGoose_n126 rfl rfl rfl (hE.2.2 (RX6, 126, yX0_hasGoose, "FeatherShares") (List.mem_of_getElem? (i := 10) rfl)) (hts (.initialized RX0) (by decide +kernel)) (by decide +kernel) ⟨Nat.le_of_ble_eq_true rfl, Nat.le_of_ble_eq_true rfl⟩, hts (.instanceMethod yX0_hasGoose) (by decide +kernel), hts (.selects RX0 yX0_hasGoose yX0_hasGoose) (by decide +kernel)⟩ ⟨Pc0_blind, va_recv hT hP (q0 := 4) (ci := 0) rfl rfl, fun U hU hW => Pc0_at (Wd := (wX0 G (ado 1) fnow)) hE (hP.subm [4, 5, 6, 7, 8, 9, 10, 11, 12, 13, 14] rfl) (hD.sub [4, 5, 6, 7, 8, 9, 10, 11, 12, 13, 14] (by decide) rfl) hU hW⟩ rfl rfl hl.1 rfl (lv_room (Nat.le_of_ble_eq_true rfl)) dX6_grant_5 ⟨Nat.zero_le _, Nat.zero_le _⟩) hS hA hP hD (fun H locs hn5 hP hD hS => ?_)
  refine lv_if_eq (tgt := 28) hx hb dX6_grant_8 (by decide) (fun hc => ?_) (fun hc => ?_)
  · have hf := if_t hf hc
    refine lv_iconst (v := (-1 : Int32)) hx hb dX6_grant_28 (ic_m1) ?_
    have hK9 := K0_of hf hK
    exact hRet (-1 : Int32) fnow _ _ _ _ hK9 dX6_grant_29 hP hD hS
  · have hf := if_f hf hc
    refine lv_iload_n hx hb dX6_grant_11 rfl (lv_at hl 2 rfl) ?_
    obtain ⟨r12, hc12, hf⟩ := bd_e hf
    refine cl_z_ro (Wd := (wX6 G ad ado f ++ (wX0 G (ado 1) fnow))) (Wc := ([] : va_W)) [] rfl (va_runS (As := [.int x2]) (rest := []) hC (c_X6_isOwner l G x2 r12 hc12 _) (va_cwS 1 hts gX6_grant_X6_isOwner rfl rfl rfl (by decide +kernel) ⟨Nat.le_of_ble_eq_true rfl, Nat.le_of_ble_eq_true rfl⟩) ⟨Pc0_blind, fun U hU hW => Pc0_at (Wd := ([] : va_W)) hE (hP.subm [] rfl) (hD.sub [] (by decide) rfl) hU hW⟩ rfl rfl hl.1 rfl (lv_room (Nat.le_of_ble_eq_true rfl)) dX6_grant_12 ⟨Nat.zero_le _, Nat.zero_le _⟩) hS hA hP hD (fun H locs hn12 hP hD hS => ?_)
    refine lv_if_eq (tgt := 28) hx hb dX6_grant_15 (by decide) (fun hc => ?_) (fun hc => ?_)
    · have hf := if_t hf hc
      refine lv_iconst (v := (-1 : Int32)) hx hb dX6_grant_28 (ic_m1) ?_
      have hK9 := K0_of hf hK
      exact hRet (-1 : Int32) fnow _ _ _ _ hK9 dX6_grant_29 hP hD hS
    · have hf := if_f hf hc
      refine lv_iload_n hx hb dX6_grant_18 rfl (lv_at hl 3 rfl) ?_
      refine lv_iconst (v := (nI 0)) hx hb dX6_grant_19 (ic_0) ?_
      refine lv_bipush (v := (nI 99)) hx hb dX6_grant_20 (bi_99) ?_
      obtain ⟨r22, hc22, hf⟩ := bd_e hf
      refine cl_z_ro (Wd := (wX6 G ad ado f ++ (wX0 G (ado 1) fnow))) (Wc := ([] : va_W)) [] rfl (va_runS (As := [.int x3, .int (nI 0), .int (nI 99)]) (rest := []) hC (c_X6_isWithin l G x3 (nI 0) (nI 99) r22 hc22 _) (va_cwS 3 hts gX6_grant_X6_isWithin rfl rfl rfl (by decide +kernel) ⟨Nat.le_of_ble_eq_true rfl, Nat.le_of_ble_eq_true rfl⟩) ⟨Pc0_blind, fun U hU hW => Pc0_at (Wd := ([] : va_W)) hE (hP.subm [] rfl) (hD.sub [] (by decide) rfl) hU hW⟩ rfl rfl hl.1 rfl (lv_room (Nat.le_of_ble_eq_true rfl)) dX6_grant_22 ⟨Nat.zero_le _, Nat.zero_le _⟩) hS hA hP hD (fun H locs hn22 hP hD hS => ?_)
      refine lv_if_ne (tgt := 30) hx hb dX6_grant_25 (by decide) (fun hc => ?_) (fun hc => ?_)
      · have hf := if_f hf hc
        refine lv_aload_n hx hb dX6_grant_30 rfl (lv_at hl 0 rfl) ?_
        refine va_get (C := RX6) (T := TX6) (N := 11) (ci := 6) (v := .ref ((ado 1) 0)) hx hb hts inX6 hown hT hP 0 rfl rfl 0 (Nat.le_of_ble_eq_true rfl) lk12 (fun _ h => h) rfl dX6_grant_31 ?_
        refine va_getN (C := RX0) (T := TX0) (N := 13) (ci := 0) (v := .ref ((ado 1) 4)) hx hb hts inX0 hown hT hP 4 rfl rfl 6 (Nat.le_of_ble_eq_true rfl) lk171 (fun _ h => h) rfl dX6_grant_34 ?_
        refine lv_iload_n hx hb dX6_grant_37 rfl (lv_at hl 1 rfl) ?_
        refine lv_iconst (v := (nI 5)) hx hb dX6_grant_38 (ic_5) ?_
        refine lv_imul hx hb dX6_grant_39 ?_
        refine lv_iload_n hx hb dX6_grant_40 rfl (lv_at hl 2 rfl) ?_
        refine lv_iadd hx hb dX6_grant_41 ?_
        refine lv_iload_n hx hb dX6_grant_42 rfl (lv_at hl 3 rfl) ?_
        obtain ⟨⟨r43, g_43⟩, hc43, hf⟩ := bd_e hf
        try dsimp only at hf
        refine cl_i_up (Wd := (wX6 G ad ado f ++ (wX0 G (ado 1) fnow))) (Wc := (wRow G ((ado 1) 4) 15 (fnow 4))) (W' := (wRow G ((ado 1) 4) 15 g_43)) (W2 := (wX6 G ad ado f ++ (wX0 G (ado 1) (mrow 4 (g_43) fnow)))) [8] [0, 1, 2, 3, 4, 5, 6, 7, 9, 10, 11, 12, 13, 14] rfl rfl rfl rfl rfl (va_runS (As := [.ref ((ado 1) 4), .int ((x1 * (nI 5)) + x2), .int x3]) (rest := []) hC (c_X6_replaced l G ((ado 1) 4) 15 (fnow 4) ((x1 * (nI 5)) + x2) x3 r43 g_43 hc43 _) (va_cwS 3 hts gX6_grant_X6_replaced rfl rfl rfl (by decide +kernel) ⟨Nat.le_of_ble_eq_true rfl, Nat.le_of_ble_eq_true rfl⟩) ⟨Pc0_blind, fun U hU hW => Pc0_at (Wd := (wRow G ((ado 1) 4) 15 (fnow 4))) hE (hP.subm [8] rfl) (hD.sub [8] (by decide) rfl) hU hW⟩ rfl rfl hl.1 rfl (lv_room (Nat.le_of_ble_eq_true rfl)) dX6_grant_43 ⟨Nat.zero_le _, Nat.zero_le _⟩) hS hA hP hD (fun H locs hP hD hS => ?_)
        have hK9 := K0_of hf hK
        exact hRet r43 (mrow 4 (g_43) fnow) _ _ _ _ hK9 dX6_grant_46 hP hD hS
      · have hf := if_t hf hc
        refine lv_iconst (v := (-1 : Int32)) hx hb dX6_grant_28 (ic_m1) ?_
        have hK9 := K0_of hf hK
        exact hRet (-1 : Int32) fnow _ _ _ _ hK9 dX6_grant_29 hP hD hS
noncomputable def p_X6_plan (f : Mem) (fnow : Mem) (x1 : Int32) (x2 : Int32) (x3 : Int32) (x4 : Int32) : Option (Int32 × Mem) :=
  Option.bind (p_X0_isTrade fnow x1 x2 x3 x4) <| fun r9 =>
  if r9 = 0 then
    (some ((-1 : Int32), fnow))
  else
    (Option.bind (p_X0_addToPlan fnow x1 x2 x3 x4) <| fun (r26, fnow_26) =>
     if r26 = 0 then
       (some ((-3 : Int32), fnow_26))
     else
       (some ((fnow_26 0 2), fnow_26)))
set_option maxHeartbeats 4000000 in
set_option maxRecDepth 100000 in
theorem c_X6_plan (l : Launch) (G : Gt) (ad : Nat → Nat) (ado : Nat → Nat → Nat) (f : Mem) (fnow : Mem) (x1 : Int32) (x2 : Int32) (x3 : Int32) (x4 : Int32) (r : Int32) (fnowz : Mem) (hf : p_X6_plan f fnow x1 x2 x3 x4 = some (r, fnowz)) (sz : Nat) : Met l yX6_plan wsX6_plan ({ frames := 4, cells := 0, slots := 0, locals := 79 }) (Pc0 G sz [.ref (ad 0), .int x1, .int x2, .int x3, .int x4] (wX6 G ad ado f ++ (wX0 G (ado 1) fnow))) (Qi0 G (va_A (wX6 G ad ado f ++ (wX0 G (ado 1) fnow)) sz) r (wX6 G ad ado f ++ (wX0 G (ado 1) fnowz))) 0 0 (va_A (wX6 G ad ado f ++ (wX0 G (ado 1) fnow)) sz) := by
  refine metP (Qf := fun A => Qi0 G A r (wX6 G ad ado f ++ (wX0 G (ado 1) fnowz))) cX6_plan 5 (some .int) (by decide) rfl (Nat.le_of_ble_eq_true rfl) ?_
  intro p e s m below meth c A ls hC hr hlocks hin hE hA hsz hP hD hS hl
  generalize hargs : ([.ref (ad 0), .int x1, .int x2, .int x3, .int x4] : List Value).toArray = args at hC ⊢
  obtain ⟨hx, hb, hml, hown, hts⟩ := id hC
  have hT : va_K G.1 vwCl (tyL G) s := hE.1
  have hRet : ∀ (r9 : Int32) (fnow9 : Mem) (H : Heap) (locs : List Loc) (ls : Array Slot) (pc : Nat) (hK9 : (r9, fnow9) = (r, fnowz)) (hdg : decode cX6_plan pc = .ok (.ireturn, 1)), va_P G.1 vwCl (wX6 G ad ado f ++ (wX0 G (ado 1) fnow9)) H → va_D A (wX6 G ad ado f ++ (wX0 G (ado 1) fnow9)) → va_S A s.heap H locs → W p l e ({ frames := 4, cells := 0, slots := 0, locals := 79 }) s m args below meth c H locs 0 0 (MQ below (Qi0 G A r (wX6 G ad ado f ++ (wX0 G (ado 1) fnowz))) args s 0 0 A) (F0 m pc ls [.int r9]) := by
    intro r9 fnow9 H locs ls pc hK9 hdg hP hD hS
    cases hK9
    exact W.iret hx hb hr (fun t ht hW => ⟨⟨r, (), rfl, rfl, by rw [ht]; exact hP, hD⟩, hS.F ht⟩) hS.2.2 hdg hlocks
  generalize MQ below (Qi0 G A r (wX6 G ad ado f ++ (wX0 G (ado 1) fnowz))) args s 0 0 A = Q at hRet ⊢
  have lk12 := hts (.fieldLink RX6 12 "FeatherShares" "now" "LFeatherShares$Flock;") (by decide +kernel)
  have inX6 : ∀ w ∈ u_ws RX6 TX6 11, w ∈ wsX6_plan := by decide +kernel
  have lk109 := va_Nw.use (A := args) rfl (hE.2.1 (RX6, 109, "FeatherShares$Flock", "trades", "I", "FeatherShares") (List.mem_of_getElem? (i := 8) rfl))
  have inX0 : ∀ w ∈ u_ws RX0 TX0 13, w ∈ wsX6_plan := by decide +kernel
  have hl : lv_has ls 5 [(0, .ref (ad 0)), (1, .int x1), (2, .int x2), (3, .int x3), (4, .int x4)] := hl
  have hK0 : (r, fnowz) = (r, fnowz) := rfl
  obtain ⟨res, hres, hK⟩ : ∃ res, p_X6_plan f fnow x1 x2 x3 x4 = some res ∧ res = (r, fnowz) := ⟨_, hf, rfl⟩
  clear hf
  have hf := hres
  clear hres
  unfold p_X6_plan at hf
  refine lv_aload_n hx hb dX6_plan_0 rfl (lv_at hl 0 rfl) ?_
  refine va_get (C := RX6) (T := TX6) (N := 11) (ci := 6) (v := .ref ((ado 1) 0)) hx hb hts inX6 hown hT hP 0 rfl rfl 0 (Nat.le_of_ble_eq_true rfl) lk12 (fun _ h => h) rfl dX6_plan_1 ?_
  refine lv_iload_n hx hb dX6_plan_4 rfl (lv_at hl 1 rfl) ?_
  refine lv_iload_n hx hb dX6_plan_5 rfl (lv_at hl 2 rfl) ?_
  refine lv_iload_n hx hb dX6_plan_6 rfl (lv_at hl 3 rfl) ?_
  refine lv_iload hx hb dX6_plan_7 (lv_at hl 4 rfl) ?_
  obtain ⟨r9, hc9, hf⟩ := bd_e hf
  refine cl_z_ro (Wd := (wX6 G ad ado f ++ (wX0 G (ado 1) fnow))) (Wc := (wX0 G (ado 1) fnow)) [4, 5, 6, 7, 8, 9, 10, 11, 12, 13, 14] rfl (va_runVN (As := [.int x1, .int x2, .int x3, .int x4]) (rest := []) hC (c_X0_isTrade l G (ado 1) fnow x1 x2 x3 x4 r9 hc9 _) ⟨va_cnB 4 hts gX6_plan_X0_isTrade_n174 rfl rfl rfl (hE.2.2 (RX6, 174, yX0_isTrade, "FeatherShares") (List.mem_of_getElem? (i := 15) rfl)) (hts (.initialized RX0) (by decide +kernel)) (by decide +kernel) ⟨Nat.le_of_ble_eq_true rfl, Nat.le_of_ble_eq_true rfl⟩, hts (.instanceMethod yX0_isTrade) (by decide +kernel), hts (.selects RX0 yX0_isTrade yX0_isTrade) (by decide +kernel)⟩ ⟨Pc0_blind, va_recv hT hP (q0 := 4) (ci := 0) rfl rfl, fun U hU hW => Pc0_at (Wd := (wX0 G (ado 1) fnow)) hE (hP.subm [4, 5, 6, 7, 8, 9, 10, 11, 12, 13, 14] rfl) (hD.sub [4, 5, 6, 7, 8, 9, 10, 11, 12, 13, 14] (by decide) rfl) hU hW⟩ rfl rfl hl.1 rfl (lv_room (Nat.le_of_ble_eq_true rfl)) dX6_plan_9 ⟨Nat.zero_le _, Nat.zero_le _⟩) hS hA hP hD (fun H locs hn9 hP hD hS => ?_)
  refine lv_if_ne (tgt := 17) hx hb dX6_plan_12 (by decide) (fun hc => ?_) (fun hc => ?_)
  · have hf := if_f hf hc
    refine lv_aload_n hx hb dX6_plan_17 rfl (lv_at hl 0 rfl) ?_
    refine va_get (C := RX6) (T := TX6) (N := 11) (ci := 6) (v := .ref ((ado 1) 0)) hx hb hts inX6 hown hT hP 0 rfl rfl 0 (Nat.le_of_ble_eq_true rfl) lk12 (fun _ h => h) rfl dX6_plan_18 ?_
    refine lv_iload_n hx hb dX6_plan_21 rfl (lv_at hl 1 rfl) ?_
    refine lv_iload_n hx hb dX6_plan_22 rfl (lv_at hl 2 rfl) ?_
    refine lv_iload_n hx hb dX6_plan_23 rfl (lv_at hl 3 rfl) ?_
    refine lv_iload hx hb dX6_plan_24 (lv_at hl 4 rfl) ?_
    obtain ⟨⟨r26, fnow_26⟩, hc26, hf⟩ := bd_e hf
    try dsimp only at hf
    refine cl_z_up (Wd := (wX6 G ad ado f ++ (wX0 G (ado 1) fnow))) (Wc := (wX0 G (ado 1) fnow)) (W' := (wX0 G (ado 1) fnow_26)) (W2 := (wX6 G ad ado f ++ (wX0 G (ado 1) fnow_26))) [4, 5, 6, 7, 8, 9, 10, 11, 12, 13, 14] [0, 1, 2, 3] rfl rfl rfl rfl rfl (va_runVN (As := [.int x1, .int x2, .int x3, .int x4]) (rest := []) hC (c_X0_addToPlan l G (ado 1) fnow x1 x2 x3 x4 r26 fnow_26 hc26 _) ⟨va_cnB 4 hts gX6_plan_X0_addToPlan_n178 rfl rfl rfl (hE.2.2 (RX6, 178, yX0_addToPlan, "FeatherShares") (List.mem_of_getElem? (i := 16) rfl)) (hts (.initialized RX0) (by decide +kernel)) (by decide +kernel) ⟨Nat.le_of_ble_eq_true rfl, Nat.le_of_ble_eq_true rfl⟩, hts (.instanceMethod yX0_addToPlan) (by decide +kernel), hts (.selects RX0 yX0_addToPlan yX0_addToPlan) (by decide +kernel)⟩ ⟨Pc0_blind, va_recv hT hP (q0 := 4) (ci := 0) rfl rfl, fun U hU hW => Pc0_at (Wd := (wX0 G (ado 1) fnow)) hE (hP.subm [4, 5, 6, 7, 8, 9, 10, 11, 12, 13, 14] rfl) (hD.sub [4, 5, 6, 7, 8, 9, 10, 11, 12, 13, 14] (by decide) rfl) hU hW⟩ rfl rfl hl.1 rfl (lv_room (Nat.le_of_ble_eq_true rfl)) dX6_plan_26 ⟨Nat.zero_le _, Nat.zero_le _⟩) hS hA hP hD (fun H locs hn26 hP hD hS => ?_)
    refine lv_if_eq (tgt := 42) hx hb dX6_plan_29 (by decide) (fun hc => ?_) (fun hc => ?_)
    · have hf := if_t hf hc
      refine lv_bipush (v := (-3 : Int32)) hx hb dX6_plan_42 (bi_m3) ?_
      have hK9 := K0_of hf hK
      exact hRet (-3 : Int32) fnow_26 _ _ _ _ hK9 dX6_plan_44 hP hD hS
    · have hf := if_f hf hc
      refine lv_aload_n hx hb dX6_plan_32 rfl (lv_at hl 0 rfl) ?_
      refine va_get (C := RX6) (T := TX6) (N := 11) (ci := 6) (v := .ref ((ado 1) 0)) hx hb hts inX6 hown hT hP 0 rfl rfl 0 (Nat.le_of_ble_eq_true rfl) lk12 (fun _ h => h) rfl dX6_plan_33 ?_
      refine va_getN (C := RX0) (T := TX0) (N := 13) (ci := 0) (v := .int (fnow_26 0 2)) hx hb hts inX0 hown hT hP 4 rfl rfl 2 (Nat.le_of_ble_eq_true rfl) lk109 (fun _ h => h) rfl dX6_plan_36 ?_
      refine lv_goto (tgt := 44) hx hb dX6_plan_39 (by decide) ?_
      have hK9 := K0_of hf hK
      exact hRet (fnow_26 0 2) fnow_26 _ _ _ _ hK9 dX6_plan_44 hP hD hS
  · have hf := if_t hf hc
    refine lv_iconst (v := (-1 : Int32)) hx hb dX6_plan_15 (ic_m1) ?_
    have hK9 := K0_of hf hK
    exact hRet (-1 : Int32) fnow _ _ _ _ hK9 dX6_plan_16 hP hD hS
noncomputable def p_X6_cut (f : Mem) (fnow : Mem) (x1 : Int32) : Option (Int32 × Mem) :=
  Option.bind (p_X6_isWithin x1 (nI 0) (fnow 0 2)) <| fun r9 =>
  if r9 = 0 then
    (some ((-1 : Int32), fnow))
  else
    (some ((fnow 0 2), (mset 0 2 x1 fnow)))
set_option maxHeartbeats 4000000 in
set_option maxRecDepth 100000 in
theorem c_X6_cut (l : Launch) (G : Gt) (ad : Nat → Nat) (ado : Nat → Nat → Nat) (f : Mem) (fnow : Mem) (x1 : Int32) (r : Int32) (fnowz : Mem) (hf : p_X6_cut f fnow x1 = some (r, fnowz)) (sz : Nat) : Met l yX6_cut wsX6_cut ({ frames := 2, cells := 0, slots := 0, locals := 34 }) (Pc0 G sz [.ref (ad 0), .int x1] (wX6 G ad ado f ++ (wX0 G (ado 1) fnow))) (Qi0 G (va_A (wX6 G ad ado f ++ (wX0 G (ado 1) fnow)) sz) r (wX6 G ad ado f ++ (wX0 G (ado 1) fnowz))) 0 0 (va_A (wX6 G ad ado f ++ (wX0 G (ado 1) fnow)) sz) := by
  refine metP (Qf := fun A => Qi0 G A r (wX6 G ad ado f ++ (wX0 G (ado 1) fnowz))) cX6_cut 3 (some .int) (by decide) rfl (Nat.le_of_ble_eq_true rfl) ?_
  intro p e s m below meth c A ls hC hr hlocks hin hE hA hsz hP hD hS hl
  generalize hargs : ([.ref (ad 0), .int x1] : List Value).toArray = args at hC ⊢
  obtain ⟨hx, hb, hml, hown, hts⟩ := id hC
  have hT : va_K G.1 vwCl (tyL G) s := hE.1
  have hRet : ∀ (r9 : Int32) (fnow9 : Mem) (H : Heap) (locs : List Loc) (ls : Array Slot) (pc : Nat) (hK9 : (r9, fnow9) = (r, fnowz)) (hdg : decode cX6_cut pc = .ok (.ireturn, 1)), va_P G.1 vwCl (wX6 G ad ado f ++ (wX0 G (ado 1) fnow9)) H → va_D A (wX6 G ad ado f ++ (wX0 G (ado 1) fnow9)) → va_S A s.heap H locs → W p l e ({ frames := 2, cells := 0, slots := 0, locals := 34 }) s m args below meth c H locs 0 0 (MQ below (Qi0 G A r (wX6 G ad ado f ++ (wX0 G (ado 1) fnowz))) args s 0 0 A) (F0 m pc ls [.int r9]) := by
    intro r9 fnow9 H locs ls pc hK9 hdg hP hD hS
    cases hK9
    exact W.iret hx hb hr (fun t ht hW => ⟨⟨r, (), rfl, rfl, by rw [ht]; exact hP, hD⟩, hS.F ht⟩) hS.2.2 hdg hlocks
  generalize MQ below (Qi0 G A r (wX6 G ad ado f ++ (wX0 G (ado 1) fnowz))) args s 0 0 A = Q at hRet ⊢
  have lk12 := hts (.fieldLink RX6 12 "FeatherShares" "now" "LFeatherShares$Flock;") (by decide +kernel)
  have inX6 : ∀ w ∈ u_ws RX6 TX6 11, w ∈ wsX6_cut := by decide +kernel
  have lk109 := va_Nw.use (A := args) rfl (hE.2.1 (RX6, 109, "FeatherShares$Flock", "trades", "I", "FeatherShares") (List.mem_of_getElem? (i := 8) rfl))
  have inX0 : ∀ w ∈ u_ws RX0 TX0 13, w ∈ wsX6_cut := by decide +kernel
  have hl : lv_has ls 3 [(0, .ref (ad 0)), (1, .int x1)] := hl
  have hK0 : (r, fnowz) = (r, fnowz) := rfl
  obtain ⟨res, hres, hK⟩ : ∃ res, p_X6_cut f fnow x1 = some res ∧ res = (r, fnowz) := ⟨_, hf, rfl⟩
  clear hf
  have hf := hres
  clear hres
  unfold p_X6_cut at hf
  refine lv_iload_n hx hb dX6_cut_0 rfl (lv_at hl 1 rfl) ?_
  refine lv_iconst (v := (nI 0)) hx hb dX6_cut_1 (ic_0) ?_
  refine lv_aload_n hx hb dX6_cut_2 rfl (lv_at hl 0 rfl) ?_
  refine va_get (C := RX6) (T := TX6) (N := 11) (ci := 6) (v := .ref ((ado 1) 0)) hx hb hts inX6 hown hT hP 0 rfl rfl 0 (Nat.le_of_ble_eq_true rfl) lk12 (fun _ h => h) rfl dX6_cut_3 ?_
  refine va_getN (C := RX0) (T := TX0) (N := 13) (ci := 0) (v := .int (fnow 0 2)) hx hb hts inX0 hown hT hP 4 rfl rfl 2 (Nat.le_of_ble_eq_true rfl) lk109 (fun _ h => h) rfl dX6_cut_6 ?_
  obtain ⟨r9, hc9, hf⟩ := bd_e hf
  refine cl_z_ro (Wd := (wX6 G ad ado f ++ (wX0 G (ado 1) fnow))) (Wc := ([] : va_W)) [] rfl (va_runS (As := [.int x1, .int (nI 0), .int (fnow 0 2)]) (rest := []) hC (c_X6_isWithin l G x1 (nI 0) (fnow 0 2) r9 hc9 _) (va_cwS 3 hts gX6_cut_X6_isWithin rfl rfl rfl (by decide +kernel) ⟨Nat.le_of_ble_eq_true rfl, Nat.le_of_ble_eq_true rfl⟩) ⟨Pc0_blind, fun U hU hW => Pc0_at (Wd := ([] : va_W)) hE (hP.subm [] rfl) (hD.sub [] (by decide) rfl) hU hW⟩ rfl rfl hl.1 rfl (lv_room (Nat.le_of_ble_eq_true rfl)) dX6_cut_9 ⟨Nat.zero_le _, Nat.zero_le _⟩) hS hA hP hD (fun H locs hn9 hP hD hS => ?_)
  refine lv_if_ne (tgt := 17) hx hb dX6_cut_12 (by decide) (fun hc => ?_) (fun hc => ?_)
  · have hf := if_f hf hc
    refine lv_aload_n hx hb dX6_cut_17 rfl (lv_at hl 0 rfl) ?_
    refine va_get (C := RX6) (T := TX6) (N := 11) (ci := 6) (v := .ref ((ado 1) 0)) hx hb hts inX6 hown hT hP 0 rfl rfl 0 (Nat.le_of_ble_eq_true rfl) lk12 (fun _ h => h) rfl dX6_cut_18 ?_
    refine va_getN (C := RX0) (T := TX0) (N := 13) (ci := 0) (v := .int (fnow 0 2)) hx hb hts inX0 hown hT hP 4 rfl rfl 2 (Nat.le_of_ble_eq_true rfl) lk109 (fun _ h => h) rfl dX6_cut_21 ?_
    refine lv_istore_n (lv' := [(2, .int (fnow 0 2)), (0, .ref (ad 0)), (1, .int x1)]) hx hb dX6_cut_24 rfl hl (by decide) rfl (fun ls hl => ?_)
    refine lv_aload_n hx hb dX6_cut_25 rfl (lv_at hl 1 rfl) ?_
    refine va_get (C := RX6) (T := TX6) (N := 11) (ci := 6) (v := .ref ((ado 1) 0)) hx hb hts inX6 hown hT hP 0 rfl rfl 0 (Nat.le_of_ble_eq_true rfl) lk12 (fun _ h => h) rfl dX6_cut_26 ?_
    refine lv_iload_n hx hb dX6_cut_29 rfl (lv_at hl 2 rfl) ?_
    refine va_putN (C := RX0) (T := TX0) (N := 13) (ci := 0) (ty := .int) (v := .int x1) hx hb hts inX0 tyX0 tyX0_ok nmX0 hown hT hP hD hS 4 rfl rfl 2 (Nat.le_of_ble_eq_true rfl) lk109 (fun _ h => h) rfl (by decide +kernel) rfl rfl (Nat.le_of_ble_eq_true rfl) dX6_cut_30 (fun H locs hP hD hS => ?_)
    have hP : va_P G.1 vwCl (wX6 G ad ado f ++ (wX0 G (ado 1) (mset 0 2 x1 fnow))) H := hP
    have hD : va_D A (wX6 G ad ado f ++ (wX0 G (ado 1) (mset 0 2 x1 fnow))) := hD
    refine lv_iload_n hx hb dX6_cut_33 rfl (lv_at hl 0 rfl) ?_
    have hK9 := K0_of hf hK
    exact hRet (fnow 0 2) (mset 0 2 x1 fnow) _ _ _ _ hK9 dX6_cut_34 hP hD hS
  · have hf := if_t hf hc
    refine lv_iconst (v := (-1 : Int32)) hx hb dX6_cut_15 (ic_m1) ?_
    have hK9 := K0_of hf hK
    exact hRet (-1 : Int32) fnow _ _ _ _ hK9 dX6_cut_16 hP hD hS
noncomputable def p_X6_buy (f : Mem) (fnow : Mem) (x1 : Int32) (x2 : Int32) (x3 : Int32) (x4 : Int32) : Option (Int32 × Mem) :=
  Option.bind (p_X0_isTrade fnow x1 x2 x3 x4) <| fun r9 =>
  if r9 = 0 then
    (some ((-1 : Int32), fnow))
  else
    (Option.bind (p_X0_canTrade fnow x1 x2 x3 x4) <| fun r26 =>
     if r26 = 0 then
       (some ((-2 : Int32), fnow))
     else
       (Option.bind (p_X0_exchange fnow x1 x2 x3 x4) <| fun fnow_44 =>
        gd (inb x1 5) <|
        some ((fnow_44 5 x1.toNatClampNeg), fnow_44)))
set_option maxHeartbeats 4000000 in
set_option maxRecDepth 100000 in
theorem c_X6_buy (l : Launch) (G : Gt) (ad : Nat → Nat) (ado : Nat → Nat → Nat) (f : Mem) (fnow : Mem) (x1 : Int32) (x2 : Int32) (x3 : Int32) (x4 : Int32) (r : Int32) (fnowz : Mem) (hf : p_X6_buy f fnow x1 x2 x3 x4 = some (r, fnowz)) (sz : Nat) : Met l yX6_buy wsX6_buy ({ frames := 4, cells := 0, slots := 0, locals := 83 }) (Pc0 G sz [.ref (ad 0), .int x1, .int x2, .int x3, .int x4] (wX6 G ad ado f ++ (wX0 G (ado 1) fnow))) (Qi0 G (va_A (wX6 G ad ado f ++ (wX0 G (ado 1) fnow)) sz) r (wX6 G ad ado f ++ (wX0 G (ado 1) fnowz))) 0 0 (va_A (wX6 G ad ado f ++ (wX0 G (ado 1) fnow)) sz) := by
  refine metP (Qf := fun A => Qi0 G A r (wX6 G ad ado f ++ (wX0 G (ado 1) fnowz))) cX6_buy 5 (some .int) (by decide) rfl (Nat.le_of_ble_eq_true rfl) ?_
  intro p e s m below meth c A ls hC hr hlocks hin hE hA hsz hP hD hS hl
  generalize hargs : ([.ref (ad 0), .int x1, .int x2, .int x3, .int x4] : List Value).toArray = args at hC ⊢
  obtain ⟨hx, hb, hml, hown, hts⟩ := id hC
  have hT : va_K G.1 vwCl (tyL G) s := hE.1
  have hRet : ∀ (r9 : Int32) (fnow9 : Mem) (H : Heap) (locs : List Loc) (ls : Array Slot) (pc : Nat) (hK9 : (r9, fnow9) = (r, fnowz)) (hdg : decode cX6_buy pc = .ok (.ireturn, 1)), va_P G.1 vwCl (wX6 G ad ado f ++ (wX0 G (ado 1) fnow9)) H → va_D A (wX6 G ad ado f ++ (wX0 G (ado 1) fnow9)) → va_S A s.heap H locs → W p l e ({ frames := 4, cells := 0, slots := 0, locals := 83 }) s m args below meth c H locs 0 0 (MQ below (Qi0 G A r (wX6 G ad ado f ++ (wX0 G (ado 1) fnowz))) args s 0 0 A) (F0 m pc ls [.int r9]) := by
    intro r9 fnow9 H locs ls pc hK9 hdg hP hD hS
    cases hK9
    exact W.iret hx hb hr (fun t ht hW => ⟨⟨r, (), rfl, rfl, by rw [ht]; exact hP, hD⟩, hS.F ht⟩) hS.2.2 hdg hlocks
  generalize MQ below (Qi0 G A r (wX6 G ad ado f ++ (wX0 G (ado 1) fnowz))) args s 0 0 A = Q at hRet ⊢
  have lk12 := hts (.fieldLink RX6 12 "FeatherShares" "now" "LFeatherShares$Flock;") (by decide +kernel)
  have inX6 : ∀ w ∈ u_ws RX6 TX6 11, w ∈ wsX6_buy := by decide +kernel
  have lk112 := va_Nw.use (A := args) rfl (hE.2.1 (RX6, 112, "FeatherShares$Flock", "money", "[I", "FeatherShares") (List.mem_of_getElem? (i := 9) rfl))
  have inX0 : ∀ w ∈ u_ws RX0 TX0 13, w ∈ wsX6_buy := by decide +kernel
  have hl : lv_has ls 5 [(0, .ref (ad 0)), (1, .int x1), (2, .int x2), (3, .int x3), (4, .int x4)] := hl
  have hK0 : (r, fnowz) = (r, fnowz) := rfl
  obtain ⟨res, hres, hK⟩ : ∃ res, p_X6_buy f fnow x1 x2 x3 x4 = some res ∧ res = (r, fnowz) := ⟨_, hf, rfl⟩
  clear hf
  have hf := hres
  clear hres
  unfold p_X6_buy at hf
  refine lv_aload_n hx hb dX6_buy_0 rfl (lv_at hl 0 rfl) ?_
  refine va_get (C := RX6) (T := TX6) (N := 11) (ci := 6) (v := .ref ((ado 1) 0)) hx hb hts inX6 hown hT hP 0 rfl rfl 0 (Nat.le_of_ble_eq_true rfl) lk12 (fun _ h => h) rfl dX6_buy_1 ?_
  refine lv_iload_n hx hb dX6_buy_4 rfl (lv_at hl 1 rfl) ?_
  refine lv_iload_n hx hb dX6_buy_5 rfl (lv_at hl 2 rfl) ?_
  refine lv_iload_n hx hb dX6_buy_6 rfl (lv_at hl 3 rfl) ?_
  refine lv_iload hx hb dX6_buy_7 (lv_at hl 4 rfl) ?_
  obtain ⟨r9, hc9, hf⟩ := bd_e hf
  refine cl_z_ro (Wd := (wX6 G ad ado f ++ (wX0 G (ado 1) fnow))) (Wc := (wX0 G (ado 1) fnow)) [4, 5, 6, 7, 8, 9, 10, 11, 12, 13, 14] rfl (va_runVN (As := [.int x1, .int x2, .int x3, .int x4]) (rest := []) hC (c_X0_isTrade l G (ado 1) fnow x1 x2 x3 x4 r9 hc9 _) ⟨va_cnB 4 hts gX6_buy_X0_isTrade_n174 rfl rfl rfl (hE.2.2 (RX6, 174, yX0_isTrade, "FeatherShares") (List.mem_of_getElem? (i := 15) rfl)) (hts (.initialized RX0) (by decide +kernel)) (by decide +kernel) ⟨Nat.le_of_ble_eq_true rfl, Nat.le_of_ble_eq_true rfl⟩, hts (.instanceMethod yX0_isTrade) (by decide +kernel), hts (.selects RX0 yX0_isTrade yX0_isTrade) (by decide +kernel)⟩ ⟨Pc0_blind, va_recv hT hP (q0 := 4) (ci := 0) rfl rfl, fun U hU hW => Pc0_at (Wd := (wX0 G (ado 1) fnow)) hE (hP.subm [4, 5, 6, 7, 8, 9, 10, 11, 12, 13, 14] rfl) (hD.sub [4, 5, 6, 7, 8, 9, 10, 11, 12, 13, 14] (by decide) rfl) hU hW⟩ rfl rfl hl.1 rfl (lv_room (Nat.le_of_ble_eq_true rfl)) dX6_buy_9 ⟨Nat.zero_le _, Nat.zero_le _⟩) hS hA hP hD (fun H locs hn9 hP hD hS => ?_)
  refine lv_if_ne (tgt := 17) hx hb dX6_buy_12 (by decide) (fun hc => ?_) (fun hc => ?_)
  · have hf := if_f hf hc
    refine lv_aload_n hx hb dX6_buy_17 rfl (lv_at hl 0 rfl) ?_
    refine va_get (C := RX6) (T := TX6) (N := 11) (ci := 6) (v := .ref ((ado 1) 0)) hx hb hts inX6 hown hT hP 0 rfl rfl 0 (Nat.le_of_ble_eq_true rfl) lk12 (fun _ h => h) rfl dX6_buy_18 ?_
    refine lv_iload_n hx hb dX6_buy_21 rfl (lv_at hl 1 rfl) ?_
    refine lv_iload_n hx hb dX6_buy_22 rfl (lv_at hl 2 rfl) ?_
    refine lv_iload_n hx hb dX6_buy_23 rfl (lv_at hl 3 rfl) ?_
    refine lv_iload hx hb dX6_buy_24 (lv_at hl 4 rfl) ?_
    obtain ⟨r26, hc26, hf⟩ := bd_e hf
    refine cl_z_ro (Wd := (wX6 G ad ado f ++ (wX0 G (ado 1) fnow))) (Wc := (wX0 G (ado 1) fnow)) [4, 5, 6, 7, 8, 9, 10, 11, 12, 13, 14] rfl (va_runVN (As := [.int x1, .int x2, .int x3, .int x4]) (rest := []) hC (c_X0_canTrade l G (ado 1) fnow x1 x2 x3 x4 r26 hc26 _) ⟨va_cnB 4 hts gX6_buy_X0_canTrade_n181 rfl rfl rfl (hE.2.2 (RX6, 181, yX0_canTrade, "FeatherShares") (List.mem_of_getElem? (i := 17) rfl)) (hts (.initialized RX0) (by decide +kernel)) (by decide +kernel) ⟨Nat.le_of_ble_eq_true rfl, Nat.le_of_ble_eq_true rfl⟩, hts (.instanceMethod yX0_canTrade) (by decide +kernel), hts (.selects RX0 yX0_canTrade yX0_canTrade) (by decide +kernel)⟩ ⟨Pc0_blind, va_recv hT hP (q0 := 4) (ci := 0) rfl rfl, fun U hU hW => Pc0_at (Wd := (wX0 G (ado 1) fnow)) hE (hP.subm [4, 5, 6, 7, 8, 9, 10, 11, 12, 13, 14] rfl) (hD.sub [4, 5, 6, 7, 8, 9, 10, 11, 12, 13, 14] (by decide) rfl) hU hW⟩ rfl rfl hl.1 rfl (lv_room (Nat.le_of_ble_eq_true rfl)) dX6_buy_26 ⟨Nat.zero_le _, Nat.zero_le _⟩) hS hA hP hD (fun H locs hn26 hP hD hS => ?_)
    refine lv_if_ne (tgt := 35) hx hb dX6_buy_29 (by decide) (fun hc => ?_) (fun hc => ?_)
    · have hf := if_f hf hc
      refine lv_aload_n hx hb dX6_buy_35 rfl (lv_at hl 0 rfl) ?_
      refine va_get (C := RX6) (T := TX6) (N := 11) (ci := 6) (v := .ref ((ado 1) 0)) hx hb hts inX6 hown hT hP 0 rfl rfl 0 (Nat.le_of_ble_eq_true rfl) lk12 (fun _ h => h) rfl dX6_buy_36 ?_
      refine lv_iload_n hx hb dX6_buy_39 rfl (lv_at hl 1 rfl) ?_
      refine lv_iload_n hx hb dX6_buy_40 rfl (lv_at hl 2 rfl) ?_
      refine lv_iload_n hx hb dX6_buy_41 rfl (lv_at hl 3 rfl) ?_
      refine lv_iload hx hb dX6_buy_42 (lv_at hl 4 rfl) ?_
      obtain ⟨fnow_44, hc44, hf⟩ := bd_e hf
      refine cl_v_up (Wd := (wX6 G ad ado f ++ (wX0 G (ado 1) fnow))) (Wc := (wX0 G (ado 1) fnow)) (W' := (wX0 G (ado 1) fnow_44)) (W2 := (wX6 G ad ado f ++ (wX0 G (ado 1) fnow_44))) [4, 5, 6, 7, 8, 9, 10, 11, 12, 13, 14] [0, 1, 2, 3] rfl rfl rfl rfl rfl (va_runVN (As := [.int x1, .int x2, .int x3, .int x4]) (rest := []) hC (c_X0_exchange l G (ado 1) fnow x1 x2 x3 x4 fnow_44 hc44 _) ⟨va_cnB 4 hts gX6_buy_X0_exchange_n184 rfl rfl rfl (hE.2.2 (RX6, 184, yX0_exchange, "FeatherShares") (List.mem_of_getElem? (i := 18) rfl)) (hts (.initialized RX0) (by decide +kernel)) (by decide +kernel) ⟨Nat.le_of_ble_eq_true rfl, Nat.le_of_ble_eq_true rfl⟩, hts (.instanceMethod yX0_exchange) (by decide +kernel), hts (.selects RX0 yX0_exchange yX0_exchange) (by decide +kernel)⟩ ⟨Pc0_blind, va_recv hT hP (q0 := 4) (ci := 0) rfl rfl, fun U hU hW => Pc0_at (Wd := (wX0 G (ado 1) fnow)) hE (hP.subm [4, 5, 6, 7, 8, 9, 10, 11, 12, 13, 14] rfl) (hD.sub [4, 5, 6, 7, 8, 9, 10, 11, 12, 13, 14] (by decide) rfl) hU hW⟩ rfl rfl hl.1 rfl (lv_room (Nat.le_of_ble_eq_true rfl)) dX6_buy_44 ⟨Nat.zero_le _, Nat.zero_le _⟩) hS hA hP hD (fun H locs hP hD hS => ?_)
      refine lv_aload_n hx hb dX6_buy_47 rfl (lv_at hl 0 rfl) ?_
      refine va_get (C := RX6) (T := TX6) (N := 11) (ci := 6) (v := .ref ((ado 1) 0)) hx hb hts inX6 hown hT hP 0 rfl rfl 0 (Nat.le_of_ble_eq_true rfl) lk12 (fun _ h => h) rfl dX6_buy_48 ?_
      refine va_getN (C := RX0) (T := TX0) (N := 13) (ci := 0) (v := .ref ((ado 1) 5)) hx hb hts inX0 hown hT hP 4 rfl rfl 7 (Nat.le_of_ble_eq_true rfl) lk112 (fun _ h => h) rfl dX6_buy_51 ?_
      refine lv_iload_n hx hb dX6_buy_54 rfl (lv_at hl 1 rfl) ?_
      obtain ⟨hg, hf⟩ := gd_e hf
      refine va_iald (f := fnow_44 5) hx hb hT hP 9 0 rfl rfl (inb_e hg) dX6_buy_55 ?_
      have hK9 := K0_of hf hK
      exact hRet (fnow_44 5 x1.toNatClampNeg) fnow_44 _ _ _ _ hK9 dX6_buy_56 hP hD hS
    · have hf := if_t hf hc
      refine lv_bipush (v := (-2 : Int32)) hx hb dX6_buy_32 (bi_m2) ?_
      have hK9 := K0_of hf hK
      exact hRet (-2 : Int32) fnow _ _ _ _ hK9 dX6_buy_34 hP hD hS
  · have hf := if_t hf hc
    refine lv_iconst (v := (-1 : Int32)) hx hb dX6_buy_15 (ic_m1) ?_
    have hK9 := K0_of hf hK
    exact hRet (-1 : Int32) fnow _ _ _ _ hK9 dX6_buy_16 hP hD hS
noncomputable def p_X6_pluck (f : Mem) (fnow : Mem) (x1 : Int32) (x2 : Int32) (x3 : Int32) (x4 : Int32) : Option (Int32 × Mem) :=
  Option.bind (p_X0_isTrade fnow x1 x2 x3 x4) <| fun r9 =>
  if r9 = 0 then
    (some ((-1 : Int32), fnow))
  else
    (Option.bind (p_X0_canPluck fnow x1 x2 x3 x4) <| fun r26 =>
     if r26 = 0 then
       (some ((-2 : Int32), fnow))
     else
       (Option.bind (p_X0_moveFeathers fnow x1 x2 x3 x4) <| fun fnow_44 =>
        Option.bind (p_X0_held fnow_44 x3 x1) <| fun r53 =>
        some (r53, fnow_44)))
set_option maxHeartbeats 4000000 in
set_option maxRecDepth 100000 in
theorem c_X6_pluck (l : Launch) (G : Gt) (ad : Nat → Nat) (ado : Nat → Nat → Nat) (f : Mem) (fnow : Mem) (x1 : Int32) (x2 : Int32) (x3 : Int32) (x4 : Int32) (r : Int32) (fnowz : Mem) (hf : p_X6_pluck f fnow x1 x2 x3 x4 = some (r, fnowz)) (sz : Nat) : Met l yX6_pluck wsX6_pluck ({ frames := 4, cells := 0, slots := 0, locals := 79 }) (Pc0 G sz [.ref (ad 0), .int x1, .int x2, .int x3, .int x4] (wX6 G ad ado f ++ (wX0 G (ado 1) fnow))) (Qi0 G (va_A (wX6 G ad ado f ++ (wX0 G (ado 1) fnow)) sz) r (wX6 G ad ado f ++ (wX0 G (ado 1) fnowz))) 0 0 (va_A (wX6 G ad ado f ++ (wX0 G (ado 1) fnow)) sz) := by
  refine metP (Qf := fun A => Qi0 G A r (wX6 G ad ado f ++ (wX0 G (ado 1) fnowz))) cX6_pluck 5 (some .int) (by decide) rfl (Nat.le_of_ble_eq_true rfl) ?_
  intro p e s m below meth c A ls hC hr hlocks hin hE hA hsz hP hD hS hl
  generalize hargs : ([.ref (ad 0), .int x1, .int x2, .int x3, .int x4] : List Value).toArray = args at hC ⊢
  obtain ⟨hx, hb, hml, hown, hts⟩ := id hC
  have hT : va_K G.1 vwCl (tyL G) s := hE.1
  have hRet : ∀ (r9 : Int32) (fnow9 : Mem) (H : Heap) (locs : List Loc) (ls : Array Slot) (pc : Nat) (hK9 : (r9, fnow9) = (r, fnowz)) (hdg : decode cX6_pluck pc = .ok (.ireturn, 1)), va_P G.1 vwCl (wX6 G ad ado f ++ (wX0 G (ado 1) fnow9)) H → va_D A (wX6 G ad ado f ++ (wX0 G (ado 1) fnow9)) → va_S A s.heap H locs → W p l e ({ frames := 4, cells := 0, slots := 0, locals := 79 }) s m args below meth c H locs 0 0 (MQ below (Qi0 G A r (wX6 G ad ado f ++ (wX0 G (ado 1) fnowz))) args s 0 0 A) (F0 m pc ls [.int r9]) := by
    intro r9 fnow9 H locs ls pc hK9 hdg hP hD hS
    cases hK9
    exact W.iret hx hb hr (fun t ht hW => ⟨⟨r, (), rfl, rfl, by rw [ht]; exact hP, hD⟩, hS.F ht⟩) hS.2.2 hdg hlocks
  generalize MQ below (Qi0 G A r (wX6 G ad ado f ++ (wX0 G (ado 1) fnowz))) args s 0 0 A = Q at hRet ⊢
  have lk12 := hts (.fieldLink RX6 12 "FeatherShares" "now" "LFeatherShares$Flock;") (by decide +kernel)
  have inX6 : ∀ w ∈ u_ws RX6 TX6 11, w ∈ wsX6_pluck := by decide +kernel
  have hl : lv_has ls 5 [(0, .ref (ad 0)), (1, .int x1), (2, .int x2), (3, .int x3), (4, .int x4)] := hl
  have hK0 : (r, fnowz) = (r, fnowz) := rfl
  obtain ⟨res, hres, hK⟩ : ∃ res, p_X6_pluck f fnow x1 x2 x3 x4 = some res ∧ res = (r, fnowz) := ⟨_, hf, rfl⟩
  clear hf
  have hf := hres
  clear hres
  unfold p_X6_pluck at hf
  refine lv_aload_n hx hb dX6_pluck_0 rfl (lv_at hl 0 rfl) ?_
  refine va_get (C := RX6) (T := TX6) (N := 11) (ci := 6) (v := .ref ((ado 1) 0)) hx hb hts inX6 hown hT hP 0 rfl rfl 0 (Nat.le_of_ble_eq_true rfl) lk12 (fun _ h => h) rfl dX6_pluck_1 ?_
  refine lv_iload_n hx hb dX6_pluck_4 rfl (lv_at hl 1 rfl) ?_
  refine lv_iload_n hx hb dX6_pluck_5 rfl (lv_at hl 2 rfl) ?_
  refine lv_iload_n hx hb dX6_pluck_6 rfl (lv_at hl 3 rfl) ?_
  refine lv_iload hx hb dX6_pluck_7 (lv_at hl 4 rfl) ?_
  obtain ⟨r9, hc9, hf⟩ := bd_e hf
  refine cl_z_ro (Wd := (wX6 G ad ado f ++ (wX0 G (ado 1) fnow))) (Wc := (wX0 G (ado 1) fnow)) [4, 5, 6, 7, 8, 9, 10, 11, 12, 13, 14] rfl (va_runVN (As := [.int x1, .int x2, .int x3, .int x4]) (rest := []) hC (c_X0_isTrade l G (ado 1) fnow x1 x2 x3 x4 r9 hc9 _) ⟨va_cnB 4 hts gX6_pluck_X0_isTrade_n174 rfl rfl rfl (hE.2.2 (RX6, 174, yX0_isTrade, "FeatherShares") (List.mem_of_getElem? (i := 15) rfl)) (hts (.initialized RX0) (by decide +kernel)) (by decide +kernel) ⟨Nat.le_of_ble_eq_true rfl, Nat.le_of_ble_eq_true rfl⟩, hts (.instanceMethod yX0_isTrade) (by decide +kernel), hts (.selects RX0 yX0_isTrade yX0_isTrade) (by decide +kernel)⟩ ⟨Pc0_blind, va_recv hT hP (q0 := 4) (ci := 0) rfl rfl, fun U hU hW => Pc0_at (Wd := (wX0 G (ado 1) fnow)) hE (hP.subm [4, 5, 6, 7, 8, 9, 10, 11, 12, 13, 14] rfl) (hD.sub [4, 5, 6, 7, 8, 9, 10, 11, 12, 13, 14] (by decide) rfl) hU hW⟩ rfl rfl hl.1 rfl (lv_room (Nat.le_of_ble_eq_true rfl)) dX6_pluck_9 ⟨Nat.zero_le _, Nat.zero_le _⟩) hS hA hP hD (fun H locs hn9 hP hD hS => ?_)
  refine lv_if_ne (tgt := 17) hx hb dX6_pluck_12 (by decide) (fun hc => ?_) (fun hc => ?_)
  · have hf := if_f hf hc
    refine lv_aload_n hx hb dX6_pluck_17 rfl (lv_at hl 0 rfl) ?_
    refine va_get (C := RX6) (T := TX6) (N := 11) (ci := 6) (v := .ref ((ado 1) 0)) hx hb hts inX6 hown hT hP 0 rfl rfl 0 (Nat.le_of_ble_eq_true rfl) lk12 (fun _ h => h) rfl dX6_pluck_18 ?_
    refine lv_iload_n hx hb dX6_pluck_21 rfl (lv_at hl 1 rfl) ?_
    refine lv_iload_n hx hb dX6_pluck_22 rfl (lv_at hl 2 rfl) ?_
    refine lv_iload_n hx hb dX6_pluck_23 rfl (lv_at hl 3 rfl) ?_
    refine lv_iload hx hb dX6_pluck_24 (lv_at hl 4 rfl) ?_
    obtain ⟨r26, hc26, hf⟩ := bd_e hf
    refine cl_z_ro (Wd := (wX6 G ad ado f ++ (wX0 G (ado 1) fnow))) (Wc := (wX0 G (ado 1) fnow)) [4, 5, 6, 7, 8, 9, 10, 11, 12, 13, 14] rfl (va_runVN (As := [.int x1, .int x2, .int x3, .int x4]) (rest := []) hC (c_X0_canPluck l G (ado 1) fnow x1 x2 x3 x4 r26 hc26 _) ⟨va_cnB 4 hts gX6_pluck_X0_canPluck_n188 rfl rfl rfl (hE.2.2 (RX6, 188, yX0_canPluck, "FeatherShares") (List.mem_of_getElem? (i := 19) rfl)) (hts (.initialized RX0) (by decide +kernel)) (by decide +kernel) ⟨Nat.le_of_ble_eq_true rfl, Nat.le_of_ble_eq_true rfl⟩, hts (.instanceMethod yX0_canPluck) (by decide +kernel), hts (.selects RX0 yX0_canPluck yX0_canPluck) (by decide +kernel)⟩ ⟨Pc0_blind, va_recv hT hP (q0 := 4) (ci := 0) rfl rfl, fun U hU hW => Pc0_at (Wd := (wX0 G (ado 1) fnow)) hE (hP.subm [4, 5, 6, 7, 8, 9, 10, 11, 12, 13, 14] rfl) (hD.sub [4, 5, 6, 7, 8, 9, 10, 11, 12, 13, 14] (by decide) rfl) hU hW⟩ rfl rfl hl.1 rfl (lv_room (Nat.le_of_ble_eq_true rfl)) dX6_pluck_26 ⟨Nat.zero_le _, Nat.zero_le _⟩) hS hA hP hD (fun H locs hn26 hP hD hS => ?_)
    refine lv_if_ne (tgt := 35) hx hb dX6_pluck_29 (by decide) (fun hc => ?_) (fun hc => ?_)
    · have hf := if_f hf hc
      refine lv_aload_n hx hb dX6_pluck_35 rfl (lv_at hl 0 rfl) ?_
      refine va_get (C := RX6) (T := TX6) (N := 11) (ci := 6) (v := .ref ((ado 1) 0)) hx hb hts inX6 hown hT hP 0 rfl rfl 0 (Nat.le_of_ble_eq_true rfl) lk12 (fun _ h => h) rfl dX6_pluck_36 ?_
      refine lv_iload_n hx hb dX6_pluck_39 rfl (lv_at hl 1 rfl) ?_
      refine lv_iload_n hx hb dX6_pluck_40 rfl (lv_at hl 2 rfl) ?_
      refine lv_iload_n hx hb dX6_pluck_41 rfl (lv_at hl 3 rfl) ?_
      refine lv_iload hx hb dX6_pluck_42 (lv_at hl 4 rfl) ?_
      obtain ⟨fnow_44, hc44, hf⟩ := bd_e hf
      refine cl_v_up (Wd := (wX6 G ad ado f ++ (wX0 G (ado 1) fnow))) (Wc := (wX0 G (ado 1) fnow)) (W' := (wX0 G (ado 1) fnow_44)) (W2 := (wX6 G ad ado f ++ (wX0 G (ado 1) fnow_44))) [4, 5, 6, 7, 8, 9, 10, 11, 12, 13, 14] [0, 1, 2, 3] rfl rfl rfl rfl rfl (va_runVN (As := [.int x1, .int x2, .int x3, .int x4]) (rest := []) hC (c_X0_moveFeathers l G (ado 1) fnow x1 x2 x3 x4 fnow_44 hc44 _) ⟨va_cnB 4 hts gX6_pluck_X0_moveFeathers_n191 rfl rfl rfl (hE.2.2 (RX6, 191, yX0_moveFeathers, "FeatherShares") (List.mem_of_getElem? (i := 20) rfl)) (hts (.initialized RX0) (by decide +kernel)) (by decide +kernel) ⟨Nat.le_of_ble_eq_true rfl, Nat.le_of_ble_eq_true rfl⟩, hts (.instanceMethod yX0_moveFeathers) (by decide +kernel), hts (.selects RX0 yX0_moveFeathers yX0_moveFeathers) (by decide +kernel)⟩ ⟨Pc0_blind, va_recv hT hP (q0 := 4) (ci := 0) rfl rfl, fun U hU hW => Pc0_at (Wd := (wX0 G (ado 1) fnow)) hE (hP.subm [4, 5, 6, 7, 8, 9, 10, 11, 12, 13, 14] rfl) (hD.sub [4, 5, 6, 7, 8, 9, 10, 11, 12, 13, 14] (by decide) rfl) hU hW⟩ rfl rfl hl.1 rfl (lv_room (Nat.le_of_ble_eq_true rfl)) dX6_pluck_44 ⟨Nat.zero_le _, Nat.zero_le _⟩) hS hA hP hD (fun H locs hP hD hS => ?_)
      refine lv_aload_n hx hb dX6_pluck_47 rfl (lv_at hl 0 rfl) ?_
      refine va_get (C := RX6) (T := TX6) (N := 11) (ci := 6) (v := .ref ((ado 1) 0)) hx hb hts inX6 hown hT hP 0 rfl rfl 0 (Nat.le_of_ble_eq_true rfl) lk12 (fun _ h => h) rfl dX6_pluck_48 ?_
      refine lv_iload_n hx hb dX6_pluck_51 rfl (lv_at hl 3 rfl) ?_
      refine lv_iload_n hx hb dX6_pluck_52 rfl (lv_at hl 1 rfl) ?_
      obtain ⟨r53, hc53, hf⟩ := bd_e hf
      refine cl_i_ro (Wd := (wX6 G ad ado f ++ (wX0 G (ado 1) fnow_44))) (Wc := (wX0 G (ado 1) fnow_44)) [4, 5, 6, 7, 8, 9, 10, 11, 12, 13, 14] rfl (va_runVN (As := [.int x3, .int x1]) (rest := []) hC (c_X0_held l G (ado 1) fnow_44 x3 x1 r53 hc53 _) ⟨va_cnB 2 hts gX6_pluck_X0_held_n152 rfl rfl rfl (hE.2.2 (RX6, 152, yX0_held, "FeatherShares") (List.mem_of_getElem? (i := 14) rfl)) (hts (.initialized RX0) (by decide +kernel)) (by decide +kernel) ⟨Nat.le_of_ble_eq_true rfl, Nat.le_of_ble_eq_true rfl⟩, hts (.instanceMethod yX0_held) (by decide +kernel), hts (.selects RX0 yX0_held yX0_held) (by decide +kernel)⟩ ⟨Pc0_blind, va_recv hT hP (q0 := 4) (ci := 0) rfl rfl, fun U hU hW => Pc0_at (Wd := (wX0 G (ado 1) fnow_44)) hE (hP.subm [4, 5, 6, 7, 8, 9, 10, 11, 12, 13, 14] rfl) (hD.sub [4, 5, 6, 7, 8, 9, 10, 11, 12, 13, 14] (by decide) rfl) hU hW⟩ rfl rfl hl.1 rfl (lv_room (Nat.le_of_ble_eq_true rfl)) dX6_pluck_53 ⟨Nat.zero_le _, Nat.zero_le _⟩) hS hA hP hD (fun H locs hP hD hS => ?_)
      have hK9 := K0_of hf hK
      exact hRet r53 fnow_44 _ _ _ _ hK9 dX6_pluck_56 hP hD hS
    · have hf := if_t hf hc
      refine lv_bipush (v := (-2 : Int32)) hx hb dX6_pluck_32 (bi_m2) ?_
      have hK9 := K0_of hf hK
      exact hRet (-2 : Int32) fnow _ _ _ _ hK9 dX6_pluck_34 hP hD hS
  · have hf := if_t hf hc
    refine lv_iconst (v := (-1 : Int32)) hx hb dX6_pluck_15 (ic_m1) ?_
    have hK9 := K0_of hf hK
    exact hRet (-1 : Int32) fnow _ _ _ _ hK9 dX6_pluck_16 hP hD hS
noncomputable def p_X6_weeks (f : Mem) (fnow : Mem) (x1 : Int32) : Option (Int32 × Mem) :=
  Option.bind (p_X6_isWithin x1 (nI 0) (nI 30)) <| fun r4 =>
  if r4 = 0 then
    (some ((-1 : Int32), fnow))
  else
    (if ((fnow 0 1) + x1) ≤ (nI 999) then
       (Option.bind (p_X0_passWeeks fnow x1) <| fun (r35, fnow_35) =>
        some (r35, fnow_35))
     else
       (some ((-3 : Int32), fnow)))
set_option maxHeartbeats 4000000 in
set_option maxRecDepth 100000 in
theorem c_X6_weeks (l : Launch) (G : Gt) (ad : Nat → Nat) (ado : Nat → Nat → Nat) (f : Mem) (fnow : Mem) (x1 : Int32) (r : Int32) (fnowz : Mem) (hf : p_X6_weeks f fnow x1 = some (r, fnowz)) (sz : Nat) : Met l yX6_weeks wsX6_weeks ({ frames := 5, cells := 0, slots := 0, locals := 133 }) (Pc0 G sz [.ref (ad 0), .int x1] (wX6 G ad ado f ++ (wX0 G (ado 1) fnow))) (Qi0 G (va_A (wX6 G ad ado f ++ (wX0 G (ado 1) fnow)) sz) r (wX6 G ad ado f ++ (wX0 G (ado 1) fnowz))) 0 0 (va_A (wX6 G ad ado f ++ (wX0 G (ado 1) fnow)) sz) := by
  refine metP (Qf := fun A => Qi0 G A r (wX6 G ad ado f ++ (wX0 G (ado 1) fnowz))) cX6_weeks 2 (some .int) (by decide) rfl (Nat.le_of_ble_eq_true rfl) ?_
  intro p e s m below meth c A ls hC hr hlocks hin hE hA hsz hP hD hS hl
  generalize hargs : ([.ref (ad 0), .int x1] : List Value).toArray = args at hC ⊢
  obtain ⟨hx, hb, hml, hown, hts⟩ := id hC
  have hT : va_K G.1 vwCl (tyL G) s := hE.1
  have hRet : ∀ (r9 : Int32) (fnow9 : Mem) (H : Heap) (locs : List Loc) (ls : Array Slot) (pc : Nat) (hK9 : (r9, fnow9) = (r, fnowz)) (hdg : decode cX6_weeks pc = .ok (.ireturn, 1)), va_P G.1 vwCl (wX6 G ad ado f ++ (wX0 G (ado 1) fnow9)) H → va_D A (wX6 G ad ado f ++ (wX0 G (ado 1) fnow9)) → va_S A s.heap H locs → W p l e ({ frames := 5, cells := 0, slots := 0, locals := 133 }) s m args below meth c H locs 0 0 (MQ below (Qi0 G A r (wX6 G ad ado f ++ (wX0 G (ado 1) fnowz))) args s 0 0 A) (F0 m pc ls [.int r9]) := by
    intro r9 fnow9 H locs ls pc hK9 hdg hP hD hS
    cases hK9
    exact W.iret hx hb hr (fun t ht hW => ⟨⟨r, (), rfl, rfl, by rw [ht]; exact hP, hD⟩, hS.F ht⟩) hS.2.2 hdg hlocks
  generalize MQ below (Qi0 G A r (wX6 G ad ado f ++ (wX0 G (ado 1) fnowz))) args s 0 0 A = Q at hRet ⊢
  have lk12 := hts (.fieldLink RX6 12 "FeatherShares" "now" "LFeatherShares$Flock;") (by decide +kernel)
  have inX6 : ∀ w ∈ u_ws RX6 TX6 11, w ∈ wsX6_weeks := by decide +kernel
  have lk106 := va_Nw.use (A := args) rfl (hE.2.1 (RX6, 106, "FeatherShares$Flock", "week", "I", "FeatherShares") (List.mem_of_getElem? (i := 7) rfl))
  have inX0 : ∀ w ∈ u_ws RX0 TX0 13, w ∈ wsX6_weeks := by decide +kernel
  have hl : lv_has ls 2 [(0, .ref (ad 0)), (1, .int x1)] := hl
  have hK0 : (r, fnowz) = (r, fnowz) := rfl
  obtain ⟨res, hres, hK⟩ : ∃ res, p_X6_weeks f fnow x1 = some res ∧ res = (r, fnowz) := ⟨_, hf, rfl⟩
  clear hf
  have hf := hres
  clear hres
  unfold p_X6_weeks at hf
  refine lv_iload_n hx hb dX6_weeks_0 rfl (lv_at hl 1 rfl) ?_
  refine lv_iconst (v := (nI 0)) hx hb dX6_weeks_1 (ic_0) ?_
  refine lv_bipush (v := (nI 30)) hx hb dX6_weeks_2 (bi_30) ?_
  obtain ⟨r4, hc4, hf⟩ := bd_e hf
  refine cl_z_ro (Wd := (wX6 G ad ado f ++ (wX0 G (ado 1) fnow))) (Wc := ([] : va_W)) [] rfl (va_runS (As := [.int x1, .int (nI 0), .int (nI 30)]) (rest := []) hC (c_X6_isWithin l G x1 (nI 0) (nI 30) r4 hc4 _) (va_cwS 3 hts gX6_weeks_X6_isWithin rfl rfl rfl (by decide +kernel) ⟨Nat.le_of_ble_eq_true rfl, Nat.le_of_ble_eq_true rfl⟩) ⟨Pc0_blind, fun U hU hW => Pc0_at (Wd := ([] : va_W)) hE (hP.subm [] rfl) (hD.sub [] (by decide) rfl) hU hW⟩ rfl rfl hl.1 rfl (lv_room (Nat.le_of_ble_eq_true rfl)) dX6_weeks_4 ⟨Nat.zero_le _, Nat.zero_le _⟩) hS hA hP hD (fun H locs hn4 hP hD hS => ?_)
  refine lv_if_ne (tgt := 12) hx hb dX6_weeks_7 (by decide) (fun hc => ?_) (fun hc => ?_)
  · have hf := if_f hf hc
    refine lv_aload_n hx hb dX6_weeks_12 rfl (lv_at hl 0 rfl) ?_
    refine va_get (C := RX6) (T := TX6) (N := 11) (ci := 6) (v := .ref ((ado 1) 0)) hx hb hts inX6 hown hT hP 0 rfl rfl 0 (Nat.le_of_ble_eq_true rfl) lk12 (fun _ h => h) rfl dX6_weeks_13 ?_
    refine va_getN (C := RX0) (T := TX0) (N := 13) (ci := 0) (v := .int (fnow 0 1)) hx hb hts inX0 hown hT hP 4 rfl rfl 1 (Nat.le_of_ble_eq_true rfl) lk106 (fun _ h => h) rfl dX6_weeks_16 ?_
    refine lv_iload_n hx hb dX6_weeks_19 rfl (lv_at hl 1 rfl) ?_
    refine lv_iadd hx hb dX6_weeks_20 ?_
    refine lv_sipush (v := (nI 999)) hx hb dX6_weeks_21 (si_999) ?_
    refine lv_icmp_le (tgt := 30) hx hb dX6_weeks_24 (by decide) (fun hc => ?_) (fun hc => ?_)
    · have hf := if_t hf hc
      refine lv_aload_n hx hb dX6_weeks_30 rfl (lv_at hl 0 rfl) ?_
      refine va_get (C := RX6) (T := TX6) (N := 11) (ci := 6) (v := .ref ((ado 1) 0)) hx hb hts inX6 hown hT hP 0 rfl rfl 0 (Nat.le_of_ble_eq_true rfl) lk12 (fun _ h => h) rfl dX6_weeks_31 ?_
      refine lv_iload_n hx hb dX6_weeks_34 rfl (lv_at hl 1 rfl) ?_
      obtain ⟨⟨r35, fnow_35⟩, hc35, hf⟩ := bd_e hf
      try dsimp only at hf
      refine cl_i_up (Wd := (wX6 G ad ado f ++ (wX0 G (ado 1) fnow))) (Wc := (wX0 G (ado 1) fnow)) (W' := (wX0 G (ado 1) fnow_35)) (W2 := (wX6 G ad ado f ++ (wX0 G (ado 1) fnow_35))) [4, 5, 6, 7, 8, 9, 10, 11, 12, 13, 14] [0, 1, 2, 3] rfl rfl rfl rfl rfl (va_runVN (As := [.int x1]) (rest := []) hC (c_X0_passWeeks l G (ado 1) fnow x1 r35 fnow_35 hc35 _) ⟨va_cnB 1 hts gX6_weeks_X0_passWeeks_n194 rfl rfl rfl (hE.2.2 (RX6, 194, yX0_passWeeks, "FeatherShares") (List.mem_of_getElem? (i := 21) rfl)) (hts (.initialized RX0) (by decide +kernel)) (by decide +kernel) ⟨Nat.le_of_ble_eq_true rfl, Nat.le_of_ble_eq_true rfl⟩, hts (.instanceMethod yX0_passWeeks) (by decide +kernel), hts (.selects RX0 yX0_passWeeks yX0_passWeeks) (by decide +kernel)⟩ ⟨Pc0_blind, va_recv hT hP (q0 := 4) (ci := 0) rfl rfl, fun U hU hW => Pc0_at (Wd := (wX0 G (ado 1) fnow)) hE (hP.subm [4, 5, 6, 7, 8, 9, 10, 11, 12, 13, 14] rfl) (hD.sub [4, 5, 6, 7, 8, 9, 10, 11, 12, 13, 14] (by decide) rfl) hU hW⟩ rfl rfl hl.1 rfl (lv_room (Nat.le_of_ble_eq_true rfl)) dX6_weeks_35 ⟨Nat.zero_le _, Nat.zero_le _⟩) hS hA hP hD (fun H locs hP hD hS => ?_)
      have hK9 := K0_of hf hK
      exact hRet r35 fnow_35 _ _ _ _ hK9 dX6_weeks_38 hP hD hS
    · have hf := if_f hf hc
      refine lv_bipush (v := (-3 : Int32)) hx hb dX6_weeks_27 (bi_m3) ?_
      have hK9 := K0_of hf hK
      exact hRet (-3 : Int32) fnow _ _ _ _ hK9 dX6_weeks_29 hP hD hS
  · have hf := if_t hf hc
    refine lv_iconst (v := (-1 : Int32)) hx hb dX6_weeks_10 (ic_m1) ?_
    have hK9 := K0_of hf hK
    exact hRet (-1 : Int32) fnow _ _ _ _ hK9 dX6_weeks_11 hP hD hS
noncomputable def p_X6_runs_L33 (f : Mem) (fnow : Mem) (x1 : Int32) (z : Int32 × Int32 × Int32 × Int32 × Mem) : Option ((Int32 × Int32 × Int32 × Int32 × Mem) ⊕ (Int32 × Int32 × Int32 × Mem)) :=
  match z with
  | (x2, x3, x4, x5, ftrial_) =>
    if (ftrial_ 0 2) ≤ x5 then
      (some (Sum.inr (x2, x3, x4, ftrial_)))
    else
      (Option.bind (p_X0_tryPlanned ftrial_ x5) <| fun (r51, ftrial_51) =>
       if r51 = 0 then
         (if x3 = (-4 : Int32) then
            (some (Sum.inl (x2, x5, x4, (x5 + nI 1), ftrial_51)))
          else
            (some (Sum.inl (x2, x3, x4, (x5 + nI 1), ftrial_51))))
       else
         (Option.bind (p_X0_costOfPlanned ftrial_51 x5) <| fun r68 =>
          some (Sum.inl ((x2 + nI 1), x3, (x4 + r68), (x5 + nI 1), ftrial_51))))
noncomputable def p_X6_runs (f : Mem) (fnow : Mem) (ftrial : Mem) (x1 : Int32) : Option (Int32 × Mem) :=
  Option.bind (p_X6_isWithin x1 (nI 0) (nI 2)) <| fun r3 =>
  if r3 = 0 then
    (some ((-1 : Int32), ftrial))
  else
    (Option.bind (p_X0_copyFrom ftrial fnow) <| fun ftrial_19 =>
     Option.bind (lp (p_X6_runs_L33 f fnow x1) ((nI 0), (-4 : Int32), (nI 0), (nI 0), ftrial_19)) <| fun (y2_33, y3_33, y4_33, ftrial_33) =>
     if x1 = 0 then
       (some (y2_33, ftrial_33))
     else
       (if x1 = (nI 1) then
          (some (y3_33, ftrial_33))
        else
          (some (y4_33, ftrial_33))))
set_option maxHeartbeats 4000000 in
set_option maxRecDepth 100000 in
theorem c_X6_runs (l : Launch) (G : Gt) (ad : Nat → Nat) (ado : Nat → Nat → Nat) (f : Mem) (fnow : Mem) (ftrial : Mem) (x1 : Int32) (r : Int32) (ftrialz : Mem) (hf : p_X6_runs f fnow ftrial x1 = some (r, ftrialz)) (sz : Nat) : Met l yX6_runs wsX6_runs ({ frames := 6, cells := 0, slots := 0, locals := 128 }) (Pc0 G sz [.ref (ad 0), .int x1] (wX6 G ad ado f ++ (wX0 G (ado 1) fnow ++ (wX0 G (ado 2) ftrial)))) (Qi0 G (va_A (wX6 G ad ado f ++ (wX0 G (ado 1) fnow ++ (wX0 G (ado 2) ftrial))) sz) r (wX6 G ad ado f ++ (wX0 G (ado 1) fnow ++ (wX0 G (ado 2) ftrialz)))) 0 0 (va_A (wX6 G ad ado f ++ (wX0 G (ado 1) fnow ++ (wX0 G (ado 2) ftrial))) sz) := by
  refine metP (Qf := fun A => Qi0 G A r (wX6 G ad ado f ++ (wX0 G (ado 1) fnow ++ (wX0 G (ado 2) ftrialz)))) cX6_runs 6 (some .int) (by decide) rfl (Nat.le_of_ble_eq_true rfl) ?_
  intro p e s m below meth c A ls hC hr hlocks hin hE hA hsz hP hD hS hl
  generalize hargs : ([.ref (ad 0), .int x1] : List Value).toArray = args at hC ⊢
  obtain ⟨hx, hb, hml, hown, hts⟩ := id hC
  have hT : va_K G.1 vwCl (tyL G) s := hE.1
  have hRet : ∀ (r9 : Int32) (ftrial9 : Mem) (H : Heap) (locs : List Loc) (ls : Array Slot) (pc : Nat) (hK9 : (r9, ftrial9) = (r, ftrialz)) (hdg : decode cX6_runs pc = .ok (.ireturn, 1)), va_P G.1 vwCl (wX6 G ad ado f ++ (wX0 G (ado 1) fnow ++ (wX0 G (ado 2) ftrial9))) H → va_D A (wX6 G ad ado f ++ (wX0 G (ado 1) fnow ++ (wX0 G (ado 2) ftrial9))) → va_S A s.heap H locs → W p l e ({ frames := 6, cells := 0, slots := 0, locals := 128 }) s m args below meth c H locs 0 0 (MQ below (Qi0 G A r (wX6 G ad ado f ++ (wX0 G (ado 1) fnow ++ (wX0 G (ado 2) ftrialz)))) args s 0 0 A) (F0 m pc ls [.int r9]) := by
    intro r9 ftrial9 H locs ls pc hK9 hdg hP hD hS
    cases hK9
    exact W.iret hx hb hr (fun t ht hW => ⟨⟨r, (), rfl, rfl, by rw [ht]; exact hP, hD⟩, hS.F ht⟩) hS.2.2 hdg hlocks
  generalize MQ below (Qi0 G A r (wX6 G ad ado f ++ (wX0 G (ado 1) fnow ++ (wX0 G (ado 2) ftrialz)))) args s 0 0 A = Q at hRet ⊢
  have lk16 := hts (.fieldLink RX6 16 "FeatherShares" "trial" "LFeatherShares$Flock;") (by decide +kernel)
  have inX6 : ∀ w ∈ u_ws RX6 TX6 11, w ∈ wsX6_runs := by decide +kernel
  have lk12 := hts (.fieldLink RX6 12 "FeatherShares" "now" "LFeatherShares$Flock;") (by decide +kernel)
  have lk109 := va_Nw.use (A := args) rfl (hE.2.1 (RX6, 109, "FeatherShares$Flock", "trades", "I", "FeatherShares") (List.mem_of_getElem? (i := 8) rfl))
  have inX0 : ∀ w ∈ u_ws RX0 TX0 13, w ∈ wsX6_runs := by decide +kernel
  have hl : lv_has ls 6 [(0, .ref (ad 0)), (1, .int x1)] := hl
  have hK0 : (r, ftrialz) = (r, ftrialz) := rfl
  obtain ⟨res, hres, hK⟩ : ∃ res, p_X6_runs f fnow ftrial x1 = some res ∧ res = (r, ftrialz) := ⟨_, hf, rfl⟩
  clear hf
  have hf := hres
  clear hres
  unfold p_X6_runs at hf
  refine lv_iload_n hx hb dX6_runs_0 rfl (lv_at hl 1 rfl) ?_
  refine lv_iconst (v := (nI 0)) hx hb dX6_runs_1 (ic_0) ?_
  refine lv_iconst (v := (nI 2)) hx hb dX6_runs_2 (ic_2) ?_
  obtain ⟨r3, hc3, hf⟩ := bd_e hf
  refine cl_z_ro (Wd := (wX6 G ad ado f ++ (wX0 G (ado 1) fnow ++ (wX0 G (ado 2) ftrial)))) (Wc := ([] : va_W)) [] rfl (va_runS (As := [.int x1, .int (nI 0), .int (nI 2)]) (rest := []) hC (c_X6_isWithin l G x1 (nI 0) (nI 2) r3 hc3 _) (va_cwS 3 hts gX6_runs_X6_isWithin rfl rfl rfl (by decide +kernel) ⟨Nat.le_of_ble_eq_true rfl, Nat.le_of_ble_eq_true rfl⟩) ⟨Pc0_blind, fun U hU hW => Pc0_at (Wd := ([] : va_W)) hE (hP.subm [] rfl) (hD.sub [] (by decide) rfl) hU hW⟩ rfl rfl hl.1 rfl (lv_room (Nat.le_of_ble_eq_true rfl)) dX6_runs_3 ⟨Nat.zero_le _, Nat.zero_le _⟩) hS hA hP hD (fun H locs hn3 hP hD hS => ?_)
  refine lv_if_ne (tgt := 11) hx hb dX6_runs_6 (by decide) (fun hc => ?_) (fun hc => ?_)
  · have hf := if_f hf hc
    refine lv_aload_n hx hb dX6_runs_11 rfl (lv_at hl 0 rfl) ?_
    refine va_get (C := RX6) (T := TX6) (N := 11) (ci := 6) (v := .ref ((ado 2) 0)) hx hb hts inX6 hown hT hP 0 rfl rfl 1 (Nat.le_of_ble_eq_true rfl) lk16 (fun _ h => h) rfl dX6_runs_12 ?_
    refine lv_aload_n hx hb dX6_runs_15 rfl (lv_at hl 0 rfl) ?_
    refine va_get (C := RX6) (T := TX6) (N := 11) (ci := 6) (v := .ref ((ado 1) 0)) hx hb hts inX6 hown hT hP 0 rfl rfl 0 (Nat.le_of_ble_eq_true rfl) lk12 (fun _ h => h) rfl dX6_runs_16 ?_
    obtain ⟨ftrial_19, hc19, hf⟩ := bd_e hf
    refine cl_v_up (Wd := (wX6 G ad ado f ++ (wX0 G (ado 1) fnow ++ (wX0 G (ado 2) ftrial)))) (Wc := (wX0 G (ado 2) ftrial ++ (wX0 G (ado 1) fnow))) (W' := (wX0 G (ado 2) ftrial_19 ++ (wX0 G (ado 1) fnow))) (W2 := (wX6 G ad ado f ++ (wX0 G (ado 1) fnow ++ (wX0 G (ado 2) ftrial_19)))) [15, 16, 17, 18, 19, 20, 21, 22, 23, 24, 25, 4, 5, 6, 7, 8, 9, 10, 11, 12, 13, 14] [0, 1, 2, 3] rfl rfl rfl rfl rfl (va_runVN (As := [.ref ((ado 1) 0)]) (rest := []) hC (c_X0_copyFrom l G (ado 2) (ado 1) ftrial fnow ftrial_19 hc19 _) ⟨va_cnB 1 hts gX6_runs_X0_copyFrom_n93 rfl rfl rfl (hE.2.2 (RX6, 93, yX0_copyFrom, "FeatherShares") (List.mem_of_getElem? (i := 8) rfl)) (hts (.initialized RX0) (by decide +kernel)) (by decide +kernel) ⟨Nat.le_of_ble_eq_true rfl, Nat.le_of_ble_eq_true rfl⟩, hts (.instanceMethod yX0_copyFrom) (by decide +kernel), hts (.selects RX0 yX0_copyFrom yX0_copyFrom) (by decide +kernel)⟩ ⟨Pc0_blind, va_recv hT hP (q0 := 15) (ci := 0) rfl rfl, fun U hU hW => Pc0_at (Wd := (wX0 G (ado 2) ftrial ++ (wX0 G (ado 1) fnow))) hE (hP.subm [15, 16, 17, 18, 19, 20, 21, 22, 23, 24, 25, 4, 5, 6, 7, 8, 9, 10, 11, 12, 13, 14] rfl) (hD.sub [15, 16, 17, 18, 19, 20, 21, 22, 23, 24, 25, 4, 5, 6, 7, 8, 9, 10, 11, 12, 13, 14] (by decide) rfl) hU hW⟩ rfl rfl hl.1 rfl (lv_room (Nat.le_of_ble_eq_true rfl)) dX6_runs_19 ⟨Nat.zero_le _, Nat.zero_le _⟩) hS hA hP hD (fun H locs hP hD hS => ?_)
    refine lv_iconst (v := (nI 0)) hx hb dX6_runs_22 (ic_0) ?_
    refine lv_istore_n (lv' := [(2, .int (nI 0)), (0, .ref (ad 0)), (1, .int x1)]) hx hb dX6_runs_23 rfl hl (by decide) rfl (fun ls hl => ?_)
    refine lv_bipush (v := (-4 : Int32)) hx hb dX6_runs_24 (bi_m4) ?_
    refine lv_istore_n (lv' := [(3, .int (-4 : Int32)), (2, .int (nI 0)), (0, .ref (ad 0)), (1, .int x1)]) hx hb dX6_runs_26 rfl hl (by decide) rfl (fun ls hl => ?_)
    refine lv_iconst (v := (nI 0)) hx hb dX6_runs_27 (ic_0) ?_
    refine lv_istore (lv' := [(4, .int (nI 0)), (3, .int (-4 : Int32)), (2, .int (nI 0)), (0, .ref (ad 0)), (1, .int x1)]) hx hb dX6_runs_28 hl (by decide) rfl (fun ls hl => ?_)
    refine lv_iconst (v := (nI 0)) hx hb dX6_runs_30 (ic_0) ?_
    refine lv_istore (lv' := [(5, .int (nI 0)), (4, .int (nI 0)), (3, .int (-4 : Int32)), (2, .int (nI 0)), (0, .ref (ad 0)), (1, .int x1)]) hx hb dX6_runs_31 hl (by decide) rfl (fun ls hl => ?_)
    obtain ⟨⟨y2_33, y3_33, y4_33, ftrial_33⟩, hlp, hf⟩ := bd_e hf
    refine lp_W1 (p_X6_runs_L33 f fnow x1) (fun z => match z with | (x2, x3, x4, x5, ftrial_) => ∀ (H : Heap) (locs : List Loc) (ls : Array Slot), va_P G.1 vwCl (wX6 G ad ado f ++ (wX0 G (ado 1) fnow ++ (wX0 G (ado 2) ftrial_))) H → va_D A (wX6 G ad ado f ++ (wX0 G (ado 1) fnow ++ (wX0 G (ado 2) ftrial_))) → va_S A s.heap H locs → lv_has ls 6 [(0, .ref (ad 0)), (1, .int x1), (2, .int x2), (3, .int x3), (4, .int x4), (5, .int x5)] → W p l e ({ frames := 6, cells := 0, slots := 0, locals := 128 }) s m args below meth c H locs 0 0 Q (F0 m 33 ls [])) (fun z => match z with | (y2_33, y3_33, y4_33, ftrial_33) => ∀ (H : Heap) (locs : List Loc) (ls : Array Slot), va_P G.1 vwCl (wX6 G ad ado f ++ (wX0 G (ado 1) fnow ++ (wX0 G (ado 2) ftrial_33))) H → va_D A (wX6 G ad ado f ++ (wX0 G (ado 1) fnow ++ (wX0 G (ado 2) ftrial_33))) → va_S A s.heap H locs → lv_has ls 6 [(1, .int x1), (2, .int y2_33), (3, .int y3_33), (4, .int y4_33)] → W p l e ({ frames := 6, cells := 0, slots := 0, locals := 128 }) s m args below meth c H locs 0 0 Q (F0 m 92 ls [])) ?_ hlp ?_ _ _ _ hP hD hS (lv_sub hl [4, 5, 3, 2, 1, 0] rfl)
    · clear hlp hf hK hP hD hS hl
      intro K33 hW33 hX33 
      rintro ⟨x2, x3, x4, x5, ftrial_⟩ res hf hK H locs ls hP hD hS hl
      unfold p_X6_runs_L33 at hf
      dsimp only at hf
      refine lv_iload hx hb dX6_runs_33 (lv_at hl 5 rfl) ?_
      refine lv_aload_n hx hb dX6_runs_35 rfl (lv_at hl 0 rfl) ?_
      refine va_get (C := RX6) (T := TX6) (N := 11) (ci := 6) (v := .ref ((ado 2) 0)) hx hb hts inX6 hown hT hP 0 rfl rfl 1 (Nat.le_of_ble_eq_true rfl) lk16 (fun _ h => h) rfl dX6_runs_36 ?_
      refine va_getN (C := RX0) (T := TX0) (N := 13) (ci := 0) (v := .int (ftrial_ 0 2)) hx hb hts inX0 hown hT hP 15 rfl rfl 2 (Nat.le_of_ble_eq_true rfl) lk109 (fun _ h => h) rfl dX6_runs_39 ?_
      refine lv_icmp_ge (tgt := 92) hx hb dX6_runs_42 (by decide) (fun hc => ?_) (fun hc => ?_)
      · have hf := if_t hf hc
        have hK9 := K_of hf hK
        have hK9 := hX33 _ hK9
        exact hK9 _ _ _ hP hD hS (lv_sub hl [1, 2, 3, 4] rfl)
      · have hf := if_f hf hc
        refine lv_aload_n hx hb dX6_runs_45 rfl (lv_at hl 0 rfl) ?_
        refine va_get (C := RX6) (T := TX6) (N := 11) (ci := 6) (v := .ref ((ado 2) 0)) hx hb hts inX6 hown hT hP 0 rfl rfl 1 (Nat.le_of_ble_eq_true rfl) lk16 (fun _ h => h) rfl dX6_runs_46 ?_
        refine lv_iload hx hb dX6_runs_49 (lv_at hl 5 rfl) ?_
        obtain ⟨⟨r51, ftrial_51⟩, hc51, hf⟩ := bd_e hf
        try dsimp only at hf
        refine cl_z_up (Wd := (wX6 G ad ado f ++ (wX0 G (ado 1) fnow ++ (wX0 G (ado 2) ftrial_)))) (Wc := (wX0 G (ado 2) ftrial_)) (W' := (wX0 G (ado 2) ftrial_51)) (W2 := (wX6 G ad ado f ++ (wX0 G (ado 1) fnow ++ (wX0 G (ado 2) ftrial_51)))) [15, 16, 17, 18, 19, 20, 21, 22, 23, 24, 25] [0, 1, 2, 3, 4, 5, 6, 7, 8, 9, 10, 11, 12, 13, 14] rfl rfl rfl rfl rfl (va_runVN (As := [.int x5]) (rest := []) hC (c_X0_tryPlanned l G (ado 2) ftrial_ x5 r51 ftrial_51 hc51 _) ⟨va_cnB 1 hts gX6_runs_X0_tryPlanned_n197 rfl rfl rfl (hE.2.2 (RX6, 197, yX0_tryPlanned, "FeatherShares") (List.mem_of_getElem? (i := 22) rfl)) (hts (.initialized RX0) (by decide +kernel)) (by decide +kernel) ⟨Nat.le_of_ble_eq_true rfl, Nat.le_of_ble_eq_true rfl⟩, hts (.instanceMethod yX0_tryPlanned) (by decide +kernel), hts (.selects RX0 yX0_tryPlanned yX0_tryPlanned) (by decide +kernel)⟩ ⟨Pc0_blind, va_recv hT hP (q0 := 15) (ci := 0) rfl rfl, fun U hU hW => Pc0_at (Wd := (wX0 G (ado 2) ftrial_)) hE (hP.subm [15, 16, 17, 18, 19, 20, 21, 22, 23, 24, 25] rfl) (hD.sub [15, 16, 17, 18, 19, 20, 21, 22, 23, 24, 25] (by decide) rfl) hU hW⟩ rfl rfl hl.1 rfl (lv_room (Nat.le_of_ble_eq_true rfl)) dX6_runs_51 ⟨Nat.zero_le _, Nat.zero_le _⟩) hS hA hP hD (fun H locs hn51 hP hD hS => ?_)
        refine lv_if_eq (tgt := 77) hx hb dX6_runs_54 (by decide) (fun hc => ?_) (fun hc => ?_)
        · have hf := if_t hf hc
          refine lv_iload_n hx hb dX6_runs_77 rfl (lv_at hl 3 rfl) ?_
          refine lv_bipush (v := (-4 : Int32)) hx hb dX6_runs_78 (bi_m4) ?_
          refine lv_icmp_ne (tgt := 86) hx hb dX6_runs_80 (by decide) (fun hc => ?_) (fun hc => ?_)
          · have hf := if_f hf hc
            refine lv_iinc (v := (x5 + nI 1)) (lv' := [(5, .int (x5 + nI 1)), (0, .ref (ad 0)), (1, .int x1), (2, .int x2), (3, .int x3), (4, .int x4)]) hx hb dX6_runs_86 hl (k := 5) rfl (ii_x 1 _) (by decide) rfl (fun ls hl => ?_)
            refine lv_goto (tgt := 33) hx hb dX6_runs_89 (by decide) ?_
            have hK9 := K_of hf hK
            have hK9 := hW33 _ hK9
            exact hK9 _ _ _ hP hD hS (lv_sub hl [1, 2, 3, 4, 5, 0] rfl)
          · have hf := if_t hf hc
            refine lv_iload hx hb dX6_runs_83 (lv_at hl 5 rfl) ?_
            refine lv_istore_n (lv' := [(3, .int x5), (0, .ref (ad 0)), (1, .int x1), (2, .int x2), (4, .int x4), (5, .int x5)]) hx hb dX6_runs_85 rfl hl (by decide) rfl (fun ls hl => ?_)
            refine lv_iinc (v := (x5 + nI 1)) (lv' := [(5, .int (x5 + nI 1)), (3, .int x5), (0, .ref (ad 0)), (1, .int x1), (2, .int x2), (4, .int x4)]) hx hb dX6_runs_86 hl (k := 5) rfl (ii_x 1 _) (by decide) rfl (fun ls hl => ?_)
            refine lv_goto (tgt := 33) hx hb dX6_runs_89 (by decide) ?_
            have hK9 := K_of hf hK
            have hK9 := hW33 _ hK9
            exact hK9 _ _ _ hP hD hS (lv_sub hl [2, 3, 4, 1, 5, 0] rfl)
        · have hf := if_f hf hc
          refine lv_iinc (v := (x2 + nI 1)) (lv' := [(2, .int (x2 + nI 1)), (0, .ref (ad 0)), (1, .int x1), (3, .int x3), (4, .int x4), (5, .int x5)]) hx hb dX6_runs_57 hl (k := 2) rfl (ii_x 1 _) (by decide) rfl (fun ls hl => ?_)
          refine lv_iload hx hb dX6_runs_60 (lv_at hl 4 rfl) ?_
          refine lv_aload_n hx hb dX6_runs_62 rfl (lv_at hl 1 rfl) ?_
          refine va_get (C := RX6) (T := TX6) (N := 11) (ci := 6) (v := .ref ((ado 2) 0)) hx hb hts inX6 hown hT hP 0 rfl rfl 1 (Nat.le_of_ble_eq_true rfl) lk16 (fun _ h => h) rfl dX6_runs_63 ?_
          refine lv_iload hx hb dX6_runs_66 (lv_at hl 5 rfl) ?_
          obtain ⟨r68, hc68, hf⟩ := bd_e hf
          refine cl_i_ro (Wd := (wX6 G ad ado f ++ (wX0 G (ado 1) fnow ++ (wX0 G (ado 2) ftrial_51)))) (Wc := (wX0 G (ado 2) ftrial_51)) [15, 16, 17, 18, 19, 20, 21, 22, 23, 24, 25] rfl (va_runVN (As := [.int x5]) (rest := [.int x4]) hC (c_X0_costOfPlanned l G (ado 2) ftrial_51 x5 r68 hc68 _) ⟨va_cnB 1 hts gX6_runs_X0_costOfPlanned_n200 rfl rfl rfl (hE.2.2 (RX6, 200, yX0_costOfPlanned, "FeatherShares") (List.mem_of_getElem? (i := 23) rfl)) (hts (.initialized RX0) (by decide +kernel)) (by decide +kernel) ⟨Nat.le_of_ble_eq_true rfl, Nat.le_of_ble_eq_true rfl⟩, hts (.instanceMethod yX0_costOfPlanned) (by decide +kernel), hts (.selects RX0 yX0_costOfPlanned yX0_costOfPlanned) (by decide +kernel)⟩ ⟨Pc0_blind, va_recv hT hP (q0 := 15) (ci := 0) rfl rfl, fun U hU hW => Pc0_at (Wd := (wX0 G (ado 2) ftrial_51)) hE (hP.subm [15, 16, 17, 18, 19, 20, 21, 22, 23, 24, 25] rfl) (hD.sub [15, 16, 17, 18, 19, 20, 21, 22, 23, 24, 25] (by decide) rfl) hU hW⟩ rfl rfl hl.1 rfl (lv_room (Nat.le_of_ble_eq_true rfl)) dX6_runs_68 ⟨Nat.zero_le _, Nat.zero_le _⟩) hS hA hP hD (fun H locs hP hD hS => ?_)
          refine lv_iadd hx hb dX6_runs_71 ?_
          refine lv_istore (lv' := [(4, .int (x4 + r68)), (2, .int (x2 + nI 1)), (0, .ref (ad 0)), (1, .int x1), (3, .int x3), (5, .int x5)]) hx hb dX6_runs_72 hl (by decide) rfl (fun ls hl => ?_)
          refine lv_goto (tgt := 86) hx hb dX6_runs_74 (by decide) ?_
          refine lv_iinc (v := (x5 + nI 1)) (lv' := [(5, .int (x5 + nI 1)), (4, .int (x4 + r68)), (2, .int (x2 + nI 1)), (0, .ref (ad 0)), (1, .int x1), (3, .int x3)]) hx hb dX6_runs_86 hl (k := 5) rfl (ii_x 1 _) (by decide) rfl (fun ls hl => ?_)
          refine lv_goto (tgt := 33) hx hb dX6_runs_89 (by decide) ?_
          have hK9 := K_of hf hK
          have hK9 := hW33 _ hK9
          exact hK9 _ _ _ hP hD hS (lv_sub hl [3, 4, 2, 5, 1, 0] rfl)
    · try dsimp only at hf
      show ∀ (H : Heap) (locs : List Loc) (ls : Array Slot), va_P G.1 vwCl (wX6 G ad ado f ++ (wX0 G (ado 1) fnow ++ (wX0 G (ado 2) ftrial_33))) H → va_D A (wX6 G ad ado f ++ (wX0 G (ado 1) fnow ++ (wX0 G (ado 2) ftrial_33))) → va_S A s.heap H locs → lv_has ls 6 [(1, .int x1), (2, .int y2_33), (3, .int y3_33), (4, .int y4_33)] → W p l e ({ frames := 6, cells := 0, slots := 0, locals := 128 }) s m args below meth c H locs 0 0 Q (F0 m 92 ls [])
      intro H locs ls hP hD hS hl
      refine lv_iload_n hx hb dX6_runs_92 rfl (lv_at hl 0 rfl) ?_
      refine lv_if_ne (tgt := 100) hx hb dX6_runs_93 (by decide) (fun hc => ?_) (fun hc => ?_)
      · have hf := if_f hf hc
        refine lv_iload_n hx hb dX6_runs_100 rfl (lv_at hl 0 rfl) ?_
        refine lv_iconst (v := (nI 1)) hx hb dX6_runs_101 (ic_1) ?_
        refine lv_icmp_ne (tgt := 109) hx hb dX6_runs_102 (by decide) (fun hc => ?_) (fun hc => ?_)
        · have hf := if_f hf hc
          refine lv_iload hx hb dX6_runs_109 (lv_at hl 3 rfl) ?_
          have hK9 := K0_of hf hK
          exact hRet y4_33 ftrial_33 _ _ _ _ hK9 dX6_runs_111 hP hD hS
        · have hf := if_t hf hc
          refine lv_iload_n hx hb dX6_runs_105 rfl (lv_at hl 2 rfl) ?_
          refine lv_goto (tgt := 111) hx hb dX6_runs_106 (by decide) ?_
          have hK9 := K0_of hf hK
          exact hRet y3_33 ftrial_33 _ _ _ _ hK9 dX6_runs_111 hP hD hS
      · have hf := if_t hf hc
        refine lv_iload_n hx hb dX6_runs_96 rfl (lv_at hl 1 rfl) ?_
        refine lv_goto (tgt := 111) hx hb dX6_runs_97 (by decide) ?_
        have hK9 := K0_of hf hK
        exact hRet y2_33 ftrial_33 _ _ _ _ hK9 dX6_runs_111 hP hD hS
  · have hf := if_t hf hc
    refine lv_iconst (v := (-1 : Int32)) hx hb dX6_runs_9 (ic_m1) ?_
    have hK9 := K0_of hf hK
    exact hRet (-1 : Int32) ftrial _ _ _ _ hK9 dX6_runs_10 hP hD hS
noncomputable def p_X6_ahead (f : Mem) (fnow : Mem) (ftrial : Mem) (x1 : Int32) (x2 : Int32) : Option (Int32 × Mem) :=
  Option.bind (p_X6_isOwner x1) <| fun r1 =>
  if r1 = 0 then
    (some ((-1 : Int32), ftrial))
  else
    (Option.bind (p_X0_copyFrom ftrial fnow) <| fun ftrial_17 =>
     Option.bind (p_X0_followPlanWithout ftrial_17 (-4 : Int32)) <| fun ftrial_26 =>
     Option.bind (p_X0_ofOwner ftrial_26 x1 x2) <| fun r35 =>
     some (r35, ftrial_26))
set_option maxHeartbeats 4000000 in
set_option maxRecDepth 100000 in
theorem c_X6_ahead (l : Launch) (G : Gt) (ad : Nat → Nat) (ado : Nat → Nat → Nat) (f : Mem) (fnow : Mem) (ftrial : Mem) (x1 : Int32) (x2 : Int32) (r : Int32) (ftrialz : Mem) (hf : p_X6_ahead f fnow ftrial x1 x2 = some (r, ftrialz)) (sz : Nat) : Met l yX6_ahead wsX6_ahead ({ frames := 7, cells := 0, slots := 0, locals := 150 }) (Pc0 G sz [.ref (ad 0), .int x1, .int x2] (wX6 G ad ado f ++ (wX0 G (ado 1) fnow ++ (wX0 G (ado 2) ftrial)))) (Qi0 G (va_A (wX6 G ad ado f ++ (wX0 G (ado 1) fnow ++ (wX0 G (ado 2) ftrial))) sz) r (wX6 G ad ado f ++ (wX0 G (ado 1) fnow ++ (wX0 G (ado 2) ftrialz)))) 0 0 (va_A (wX6 G ad ado f ++ (wX0 G (ado 1) fnow ++ (wX0 G (ado 2) ftrial))) sz) := by
  refine metP (Qf := fun A => Qi0 G A r (wX6 G ad ado f ++ (wX0 G (ado 1) fnow ++ (wX0 G (ado 2) ftrialz)))) cX6_ahead 3 (some .int) (by decide) rfl (Nat.le_of_ble_eq_true rfl) ?_
  intro p e s m below meth c A ls hC hr hlocks hin hE hA hsz hP hD hS hl
  generalize hargs : ([.ref (ad 0), .int x1, .int x2] : List Value).toArray = args at hC ⊢
  obtain ⟨hx, hb, hml, hown, hts⟩ := id hC
  have hT : va_K G.1 vwCl (tyL G) s := hE.1
  have hRet : ∀ (r9 : Int32) (ftrial9 : Mem) (H : Heap) (locs : List Loc) (ls : Array Slot) (pc : Nat) (hK9 : (r9, ftrial9) = (r, ftrialz)) (hdg : decode cX6_ahead pc = .ok (.ireturn, 1)), va_P G.1 vwCl (wX6 G ad ado f ++ (wX0 G (ado 1) fnow ++ (wX0 G (ado 2) ftrial9))) H → va_D A (wX6 G ad ado f ++ (wX0 G (ado 1) fnow ++ (wX0 G (ado 2) ftrial9))) → va_S A s.heap H locs → W p l e ({ frames := 7, cells := 0, slots := 0, locals := 150 }) s m args below meth c H locs 0 0 (MQ below (Qi0 G A r (wX6 G ad ado f ++ (wX0 G (ado 1) fnow ++ (wX0 G (ado 2) ftrialz)))) args s 0 0 A) (F0 m pc ls [.int r9]) := by
    intro r9 ftrial9 H locs ls pc hK9 hdg hP hD hS
    cases hK9
    exact W.iret hx hb hr (fun t ht hW => ⟨⟨r, (), rfl, rfl, by rw [ht]; exact hP, hD⟩, hS.F ht⟩) hS.2.2 hdg hlocks
  generalize MQ below (Qi0 G A r (wX6 G ad ado f ++ (wX0 G (ado 1) fnow ++ (wX0 G (ado 2) ftrialz)))) args s 0 0 A = Q at hRet ⊢
  have lk16 := hts (.fieldLink RX6 16 "FeatherShares" "trial" "LFeatherShares$Flock;") (by decide +kernel)
  have inX6 : ∀ w ∈ u_ws RX6 TX6 11, w ∈ wsX6_ahead := by decide +kernel
  have lk12 := hts (.fieldLink RX6 12 "FeatherShares" "now" "LFeatherShares$Flock;") (by decide +kernel)
  have hl : lv_has ls 3 [(0, .ref (ad 0)), (1, .int x1), (2, .int x2)] := hl
  have hK0 : (r, ftrialz) = (r, ftrialz) := rfl
  obtain ⟨res, hres, hK⟩ : ∃ res, p_X6_ahead f fnow ftrial x1 x2 = some res ∧ res = (r, ftrialz) := ⟨_, hf, rfl⟩
  clear hf
  have hf := hres
  clear hres
  unfold p_X6_ahead at hf
  refine lv_iload_n hx hb dX6_ahead_0 rfl (lv_at hl 1 rfl) ?_
  obtain ⟨r1, hc1, hf⟩ := bd_e hf
  refine cl_z_ro (Wd := (wX6 G ad ado f ++ (wX0 G (ado 1) fnow ++ (wX0 G (ado 2) ftrial)))) (Wc := ([] : va_W)) [] rfl (va_runS (As := [.int x1]) (rest := []) hC (c_X6_isOwner l G x1 r1 hc1 _) (va_cwS 1 hts gX6_ahead_X6_isOwner rfl rfl rfl (by decide +kernel) ⟨Nat.le_of_ble_eq_true rfl, Nat.le_of_ble_eq_true rfl⟩) ⟨Pc0_blind, fun U hU hW => Pc0_at (Wd := ([] : va_W)) hE (hP.subm [] rfl) (hD.sub [] (by decide) rfl) hU hW⟩ rfl rfl hl.1 rfl (lv_room (Nat.le_of_ble_eq_true rfl)) dX6_ahead_1 ⟨Nat.zero_le _, Nat.zero_le _⟩) hS hA hP hD (fun H locs hn1 hP hD hS => ?_)
  refine lv_if_ne (tgt := 9) hx hb dX6_ahead_4 (by decide) (fun hc => ?_) (fun hc => ?_)
  · have hf := if_f hf hc
    refine lv_aload_n hx hb dX6_ahead_9 rfl (lv_at hl 0 rfl) ?_
    refine va_get (C := RX6) (T := TX6) (N := 11) (ci := 6) (v := .ref ((ado 2) 0)) hx hb hts inX6 hown hT hP 0 rfl rfl 1 (Nat.le_of_ble_eq_true rfl) lk16 (fun _ h => h) rfl dX6_ahead_10 ?_
    refine lv_aload_n hx hb dX6_ahead_13 rfl (lv_at hl 0 rfl) ?_
    refine va_get (C := RX6) (T := TX6) (N := 11) (ci := 6) (v := .ref ((ado 1) 0)) hx hb hts inX6 hown hT hP 0 rfl rfl 0 (Nat.le_of_ble_eq_true rfl) lk12 (fun _ h => h) rfl dX6_ahead_14 ?_
    obtain ⟨ftrial_17, hc17, hf⟩ := bd_e hf
    refine cl_v_up (Wd := (wX6 G ad ado f ++ (wX0 G (ado 1) fnow ++ (wX0 G (ado 2) ftrial)))) (Wc := (wX0 G (ado 2) ftrial ++ (wX0 G (ado 1) fnow))) (W' := (wX0 G (ado 2) ftrial_17 ++ (wX0 G (ado 1) fnow))) (W2 := (wX6 G ad ado f ++ (wX0 G (ado 1) fnow ++ (wX0 G (ado 2) ftrial_17)))) [15, 16, 17, 18, 19, 20, 21, 22, 23, 24, 25, 4, 5, 6, 7, 8, 9, 10, 11, 12, 13, 14] [0, 1, 2, 3] rfl rfl rfl rfl rfl (va_runVN (As := [.ref ((ado 1) 0)]) (rest := []) hC (c_X0_copyFrom l G (ado 2) (ado 1) ftrial fnow ftrial_17 hc17 _) ⟨va_cnB 1 hts gX6_ahead_X0_copyFrom_n93 rfl rfl rfl (hE.2.2 (RX6, 93, yX0_copyFrom, "FeatherShares") (List.mem_of_getElem? (i := 8) rfl)) (hts (.initialized RX0) (by decide +kernel)) (by decide +kernel) ⟨Nat.le_of_ble_eq_true rfl, Nat.le_of_ble_eq_true rfl⟩, hts (.instanceMethod yX0_copyFrom) (by decide +kernel), hts (.selects RX0 yX0_copyFrom yX0_copyFrom) (by decide +kernel)⟩ ⟨Pc0_blind, va_recv hT hP (q0 := 15) (ci := 0) rfl rfl, fun U hU hW => Pc0_at (Wd := (wX0 G (ado 2) ftrial ++ (wX0 G (ado 1) fnow))) hE (hP.subm [15, 16, 17, 18, 19, 20, 21, 22, 23, 24, 25, 4, 5, 6, 7, 8, 9, 10, 11, 12, 13, 14] rfl) (hD.sub [15, 16, 17, 18, 19, 20, 21, 22, 23, 24, 25, 4, 5, 6, 7, 8, 9, 10, 11, 12, 13, 14] (by decide) rfl) hU hW⟩ rfl rfl hl.1 rfl (lv_room (Nat.le_of_ble_eq_true rfl)) dX6_ahead_17 ⟨Nat.zero_le _, Nat.zero_le _⟩) hS hA hP hD (fun H locs hP hD hS => ?_)
    refine lv_aload_n hx hb dX6_ahead_20 rfl (lv_at hl 0 rfl) ?_
    refine va_get (C := RX6) (T := TX6) (N := 11) (ci := 6) (v := .ref ((ado 2) 0)) hx hb hts inX6 hown hT hP 0 rfl rfl 1 (Nat.le_of_ble_eq_true rfl) lk16 (fun _ h => h) rfl dX6_ahead_21 ?_
    refine lv_bipush (v := (-4 : Int32)) hx hb dX6_ahead_24 (bi_m4) ?_
    obtain ⟨ftrial_26, hc26, hf⟩ := bd_e hf
    refine cl_v_up (Wd := (wX6 G ad ado f ++ (wX0 G (ado 1) fnow ++ (wX0 G (ado 2) ftrial_17)))) (Wc := (wX0 G (ado 2) ftrial_17)) (W' := (wX0 G (ado 2) ftrial_26)) (W2 := (wX6 G ad ado f ++ (wX0 G (ado 1) fnow ++ (wX0 G (ado 2) ftrial_26)))) [15, 16, 17, 18, 19, 20, 21, 22, 23, 24, 25] [0, 1, 2, 3, 4, 5, 6, 7, 8, 9, 10, 11, 12, 13, 14] rfl rfl rfl rfl rfl (va_runVN (As := [.int (-4 : Int32)]) (rest := []) hC (c_X0_followPlanWithout l G (ado 2) ftrial_17 (-4 : Int32) ftrial_26 hc26 _) ⟨va_cnB 1 hts gX6_ahead_X0_followPlanWithout_n203 rfl rfl rfl (hE.2.2 (RX6, 203, yX0_followPlanWithout, "FeatherShares") (List.mem_of_getElem? (i := 24) rfl)) (hts (.initialized RX0) (by decide +kernel)) (by decide +kernel) ⟨Nat.le_of_ble_eq_true rfl, Nat.le_of_ble_eq_true rfl⟩, hts (.instanceMethod yX0_followPlanWithout) (by decide +kernel), hts (.selects RX0 yX0_followPlanWithout yX0_followPlanWithout) (by decide +kernel)⟩ ⟨Pc0_blind, va_recv hT hP (q0 := 15) (ci := 0) rfl rfl, fun U hU hW => Pc0_at (Wd := (wX0 G (ado 2) ftrial_17)) hE (hP.subm [15, 16, 17, 18, 19, 20, 21, 22, 23, 24, 25] rfl) (hD.sub [15, 16, 17, 18, 19, 20, 21, 22, 23, 24, 25] (by decide) rfl) hU hW⟩ rfl rfl hl.1 rfl (lv_room (Nat.le_of_ble_eq_true rfl)) dX6_ahead_26 ⟨Nat.zero_le _, Nat.zero_le _⟩) hS hA hP hD (fun H locs hP hD hS => ?_)
    refine lv_aload_n hx hb dX6_ahead_29 rfl (lv_at hl 0 rfl) ?_
    refine va_get (C := RX6) (T := TX6) (N := 11) (ci := 6) (v := .ref ((ado 2) 0)) hx hb hts inX6 hown hT hP 0 rfl rfl 1 (Nat.le_of_ble_eq_true rfl) lk16 (fun _ h => h) rfl dX6_ahead_30 ?_
    refine lv_iload_n hx hb dX6_ahead_33 rfl (lv_at hl 1 rfl) ?_
    refine lv_iload_n hx hb dX6_ahead_34 rfl (lv_at hl 2 rfl) ?_
    obtain ⟨r35, hc35, hf⟩ := bd_e hf
    refine cl_i_ro (Wd := (wX6 G ad ado f ++ (wX0 G (ado 1) fnow ++ (wX0 G (ado 2) ftrial_26)))) (Wc := (wX0 G (ado 2) ftrial_26)) [15, 16, 17, 18, 19, 20, 21, 22, 23, 24, 25] rfl (va_runVN (As := [.int x1, .int x2]) (rest := []) hC (c_X0_ofOwner l G (ado 2) ftrial_26 x1 x2 r35 hc35 _) ⟨va_cnB 2 hts gX6_ahead_X0_ofOwner_n148 rfl rfl rfl (hE.2.2 (RX6, 148, yX0_ofOwner, "FeatherShares") (List.mem_of_getElem? (i := 13) rfl)) (hts (.initialized RX0) (by decide +kernel)) (by decide +kernel) ⟨Nat.le_of_ble_eq_true rfl, Nat.le_of_ble_eq_true rfl⟩, hts (.instanceMethod yX0_ofOwner) (by decide +kernel), hts (.selects RX0 yX0_ofOwner yX0_ofOwner) (by decide +kernel)⟩ ⟨Pc0_blind, va_recv hT hP (q0 := 15) (ci := 0) rfl rfl, fun U hU hW => Pc0_at (Wd := (wX0 G (ado 2) ftrial_26)) hE (hP.subm [15, 16, 17, 18, 19, 20, 21, 22, 23, 24, 25] rfl) (hD.sub [15, 16, 17, 18, 19, 20, 21, 22, 23, 24, 25] (by decide) rfl) hU hW⟩ rfl rfl hl.1 rfl (lv_room (Nat.le_of_ble_eq_true rfl)) dX6_ahead_35 ⟨Nat.zero_le _, Nat.zero_le _⟩) hS hA hP hD (fun H locs hP hD hS => ?_)
    have hK9 := K0_of hf hK
    exact hRet r35 ftrial_26 _ _ _ _ hK9 dX6_ahead_38 hP hD hS
  · have hf := if_t hf hc
    refine lv_iconst (v := (-1 : Int32)) hx hb dX6_ahead_7 (ic_m1) ?_
    have hK9 := K0_of hf hK
    exact hRet (-1 : Int32) ftrial _ _ _ _ hK9 dX6_ahead_8 hP hD hS
noncomputable def p_X6_later (f : Mem) (fnow : Mem) (ftrial : Mem) (x1 : Int32) (x2 : Int32) (x3 : Int32) : Option (Int32 × Mem) :=
  Option.bind (p_X0_hasGoose fnow x1) <| fun r5 =>
  if r5 = 0 then
    (some ((-1 : Int32), ftrial))
  else
    (Option.bind (p_X6_isOwner x2) <| fun r12 =>
     if r12 = 0 then
       (some ((-1 : Int32), ftrial))
     else
       (Option.bind (p_X6_isWithin x3 (nI 0) (nI 60)) <| fun r22 =>
        if r22 = 0 then
          (some ((-1 : Int32), ftrial))
        else
          (Option.bind (p_X0_copyFrom ftrial fnow) <| fun ftrial_38 =>
           Option.bind (p_X0_passWeeks ftrial_38 x3) <| fun (r46, ftrial_46) =>
           Option.bind (p_X0_held ftrial_46 x1 x2) <| fun r56 =>
           some (r56, ftrial_46))))
set_option maxHeartbeats 4000000 in
set_option maxRecDepth 100000 in
theorem c_X6_later (l : Launch) (G : Gt) (ad : Nat → Nat) (ado : Nat → Nat → Nat) (f : Mem) (fnow : Mem) (ftrial : Mem) (x1 : Int32) (x2 : Int32) (x3 : Int32) (r : Int32) (ftrialz : Mem) (hf : p_X6_later f fnow ftrial x1 x2 x3 = some (r, ftrialz)) (sz : Nat) : Met l yX6_later wsX6_later ({ frames := 5, cells := 0, slots := 0, locals := 133 }) (Pc0 G sz [.ref (ad 0), .int x1, .int x2, .int x3] (wX6 G ad ado f ++ (wX0 G (ado 1) fnow ++ (wX0 G (ado 2) ftrial)))) (Qi0 G (va_A (wX6 G ad ado f ++ (wX0 G (ado 1) fnow ++ (wX0 G (ado 2) ftrial))) sz) r (wX6 G ad ado f ++ (wX0 G (ado 1) fnow ++ (wX0 G (ado 2) ftrialz)))) 0 0 (va_A (wX6 G ad ado f ++ (wX0 G (ado 1) fnow ++ (wX0 G (ado 2) ftrial))) sz) := by
  refine metP (Qf := fun A => Qi0 G A r (wX6 G ad ado f ++ (wX0 G (ado 1) fnow ++ (wX0 G (ado 2) ftrialz)))) cX6_later 4 (some .int) (by decide) rfl (Nat.le_of_ble_eq_true rfl) ?_
  intro p e s m below meth c A ls hC hr hlocks hin hE hA hsz hP hD hS hl
  generalize hargs : ([.ref (ad 0), .int x1, .int x2, .int x3] : List Value).toArray = args at hC ⊢
  obtain ⟨hx, hb, hml, hown, hts⟩ := id hC
  have hT : va_K G.1 vwCl (tyL G) s := hE.1
  have hRet : ∀ (r9 : Int32) (ftrial9 : Mem) (H : Heap) (locs : List Loc) (ls : Array Slot) (pc : Nat) (hK9 : (r9, ftrial9) = (r, ftrialz)) (hdg : decode cX6_later pc = .ok (.ireturn, 1)), va_P G.1 vwCl (wX6 G ad ado f ++ (wX0 G (ado 1) fnow ++ (wX0 G (ado 2) ftrial9))) H → va_D A (wX6 G ad ado f ++ (wX0 G (ado 1) fnow ++ (wX0 G (ado 2) ftrial9))) → va_S A s.heap H locs → W p l e ({ frames := 5, cells := 0, slots := 0, locals := 133 }) s m args below meth c H locs 0 0 (MQ below (Qi0 G A r (wX6 G ad ado f ++ (wX0 G (ado 1) fnow ++ (wX0 G (ado 2) ftrialz)))) args s 0 0 A) (F0 m pc ls [.int r9]) := by
    intro r9 ftrial9 H locs ls pc hK9 hdg hP hD hS
    cases hK9
    exact W.iret hx hb hr (fun t ht hW => ⟨⟨r, (), rfl, rfl, by rw [ht]; exact hP, hD⟩, hS.F ht⟩) hS.2.2 hdg hlocks
  generalize MQ below (Qi0 G A r (wX6 G ad ado f ++ (wX0 G (ado 1) fnow ++ (wX0 G (ado 2) ftrialz)))) args s 0 0 A = Q at hRet ⊢
  have lk12 := hts (.fieldLink RX6 12 "FeatherShares" "now" "LFeatherShares$Flock;") (by decide +kernel)
  have inX6 : ∀ w ∈ u_ws RX6 TX6 11, w ∈ wsX6_later := by decide +kernel
  have lk16 := hts (.fieldLink RX6 16 "FeatherShares" "trial" "LFeatherShares$Flock;") (by decide +kernel)
  have hl : lv_has ls 4 [(0, .ref (ad 0)), (1, .int x1), (2, .int x2), (3, .int x3)] := hl
  have hK0 : (r, ftrialz) = (r, ftrialz) := rfl
  obtain ⟨res, hres, hK⟩ : ∃ res, p_X6_later f fnow ftrial x1 x2 x3 = some res ∧ res = (r, ftrialz) := ⟨_, hf, rfl⟩
  clear hf
  have hf := hres
  clear hres
  unfold p_X6_later at hf
  refine lv_aload_n hx hb dX6_later_0 rfl (lv_at hl 0 rfl) ?_
  refine va_get (C := RX6) (T := TX6) (N := 11) (ci := 6) (v := .ref ((ado 1) 0)) hx hb hts inX6 hown hT hP 0 rfl rfl 0 (Nat.le_of_ble_eq_true rfl) lk12 (fun _ h => h) rfl dX6_later_1 ?_
  refine lv_iload_n hx hb dX6_later_4 rfl (lv_at hl 1 rfl) ?_
  obtain ⟨r5, hc5, hf⟩ := bd_e hf
  refine cl_z_ro (Wd := (wX6 G ad ado f ++ (wX0 G (ado 1) fnow ++ (wX0 G (ado 2) ftrial)))) (Wc := (wX0 G (ado 1) fnow)) [4, 5, 6, 7, 8, 9, 10, 11, 12, 13, 14] rfl (va_runVN (As := [.int x1]) (rest := []) hC (c_X0_hasGoose l G (ado 1) fnow x1 r5 hc5 _) ⟨va_cnB 1 hts gX6_later_X0_hasGoose_n126 rfl rfl rfl (hE.2.2 (RX6, 126, yX0_hasGoose, "FeatherShares") (List.mem_of_getElem? (i := 10) rfl)) (hts (.initialized RX0) (by decide +kernel)) (by decide +kernel) ⟨Nat.le_of_ble_eq_true rfl, Nat.le_of_ble_eq_true rfl⟩, hts (.instanceMethod yX0_hasGoose) (by decide +kernel), hts (.selects RX0 yX0_hasGoose yX0_hasGoose) (by decide +kernel)⟩ ⟨Pc0_blind, va_recv hT hP (q0 := 4) (ci := 0) rfl rfl, fun U hU hW => Pc0_at (Wd := (wX0 G (ado 1) fnow)) hE (hP.subm [4, 5, 6, 7, 8, 9, 10, 11, 12, 13, 14] rfl) (hD.sub [4, 5, 6, 7, 8, 9, 10, 11, 12, 13, 14] (by decide) rfl) hU hW⟩ rfl rfl hl.1 rfl (lv_room (Nat.le_of_ble_eq_true rfl)) dX6_later_5 ⟨Nat.zero_le _, Nat.zero_le _⟩) hS hA hP hD (fun H locs hn5 hP hD hS => ?_)
  refine lv_if_eq (tgt := 28) hx hb dX6_later_8 (by decide) (fun hc => ?_) (fun hc => ?_)
  · have hf := if_t hf hc
    refine lv_iconst (v := (-1 : Int32)) hx hb dX6_later_28 (ic_m1) ?_
    have hK9 := K0_of hf hK
    exact hRet (-1 : Int32) ftrial _ _ _ _ hK9 dX6_later_29 hP hD hS
  · have hf := if_f hf hc
    refine lv_iload_n hx hb dX6_later_11 rfl (lv_at hl 2 rfl) ?_
    obtain ⟨r12, hc12, hf⟩ := bd_e hf
    refine cl_z_ro (Wd := (wX6 G ad ado f ++ (wX0 G (ado 1) fnow ++ (wX0 G (ado 2) ftrial)))) (Wc := ([] : va_W)) [] rfl (va_runS (As := [.int x2]) (rest := []) hC (c_X6_isOwner l G x2 r12 hc12 _) (va_cwS 1 hts gX6_later_X6_isOwner rfl rfl rfl (by decide +kernel) ⟨Nat.le_of_ble_eq_true rfl, Nat.le_of_ble_eq_true rfl⟩) ⟨Pc0_blind, fun U hU hW => Pc0_at (Wd := ([] : va_W)) hE (hP.subm [] rfl) (hD.sub [] (by decide) rfl) hU hW⟩ rfl rfl hl.1 rfl (lv_room (Nat.le_of_ble_eq_true rfl)) dX6_later_12 ⟨Nat.zero_le _, Nat.zero_le _⟩) hS hA hP hD (fun H locs hn12 hP hD hS => ?_)
    refine lv_if_eq (tgt := 28) hx hb dX6_later_15 (by decide) (fun hc => ?_) (fun hc => ?_)
    · have hf := if_t hf hc
      refine lv_iconst (v := (-1 : Int32)) hx hb dX6_later_28 (ic_m1) ?_
      have hK9 := K0_of hf hK
      exact hRet (-1 : Int32) ftrial _ _ _ _ hK9 dX6_later_29 hP hD hS
    · have hf := if_f hf hc
      refine lv_iload_n hx hb dX6_later_18 rfl (lv_at hl 3 rfl) ?_
      refine lv_iconst (v := (nI 0)) hx hb dX6_later_19 (ic_0) ?_
      refine lv_bipush (v := (nI 60)) hx hb dX6_later_20 (bi_60) ?_
      obtain ⟨r22, hc22, hf⟩ := bd_e hf
      refine cl_z_ro (Wd := (wX6 G ad ado f ++ (wX0 G (ado 1) fnow ++ (wX0 G (ado 2) ftrial)))) (Wc := ([] : va_W)) [] rfl (va_runS (As := [.int x3, .int (nI 0), .int (nI 60)]) (rest := []) hC (c_X6_isWithin l G x3 (nI 0) (nI 60) r22 hc22 _) (va_cwS 3 hts gX6_later_X6_isWithin rfl rfl rfl (by decide +kernel) ⟨Nat.le_of_ble_eq_true rfl, Nat.le_of_ble_eq_true rfl⟩) ⟨Pc0_blind, fun U hU hW => Pc0_at (Wd := ([] : va_W)) hE (hP.subm [] rfl) (hD.sub [] (by decide) rfl) hU hW⟩ rfl rfl hl.1 rfl (lv_room (Nat.le_of_ble_eq_true rfl)) dX6_later_22 ⟨Nat.zero_le _, Nat.zero_le _⟩) hS hA hP hD (fun H locs hn22 hP hD hS => ?_)
      refine lv_if_ne (tgt := 30) hx hb dX6_later_25 (by decide) (fun hc => ?_) (fun hc => ?_)
      · have hf := if_f hf hc
        refine lv_aload_n hx hb dX6_later_30 rfl (lv_at hl 0 rfl) ?_
        refine va_get (C := RX6) (T := TX6) (N := 11) (ci := 6) (v := .ref ((ado 2) 0)) hx hb hts inX6 hown hT hP 0 rfl rfl 1 (Nat.le_of_ble_eq_true rfl) lk16 (fun _ h => h) rfl dX6_later_31 ?_
        refine lv_aload_n hx hb dX6_later_34 rfl (lv_at hl 0 rfl) ?_
        refine va_get (C := RX6) (T := TX6) (N := 11) (ci := 6) (v := .ref ((ado 1) 0)) hx hb hts inX6 hown hT hP 0 rfl rfl 0 (Nat.le_of_ble_eq_true rfl) lk12 (fun _ h => h) rfl dX6_later_35 ?_
        obtain ⟨ftrial_38, hc38, hf⟩ := bd_e hf
        refine cl_v_up (Wd := (wX6 G ad ado f ++ (wX0 G (ado 1) fnow ++ (wX0 G (ado 2) ftrial)))) (Wc := (wX0 G (ado 2) ftrial ++ (wX0 G (ado 1) fnow))) (W' := (wX0 G (ado 2) ftrial_38 ++ (wX0 G (ado 1) fnow))) (W2 := (wX6 G ad ado f ++ (wX0 G (ado 1) fnow ++ (wX0 G (ado 2) ftrial_38)))) [15, 16, 17, 18, 19, 20, 21, 22, 23, 24, 25, 4, 5, 6, 7, 8, 9, 10, 11, 12, 13, 14] [0, 1, 2, 3] rfl rfl rfl rfl rfl (va_runVN (As := [.ref ((ado 1) 0)]) (rest := []) hC (c_X0_copyFrom l G (ado 2) (ado 1) ftrial fnow ftrial_38 hc38 _) ⟨va_cnB 1 hts gX6_later_X0_copyFrom_n93 rfl rfl rfl (hE.2.2 (RX6, 93, yX0_copyFrom, "FeatherShares") (List.mem_of_getElem? (i := 8) rfl)) (hts (.initialized RX0) (by decide +kernel)) (by decide +kernel) ⟨Nat.le_of_ble_eq_true rfl, Nat.le_of_ble_eq_true rfl⟩, hts (.instanceMethod yX0_copyFrom) (by decide +kernel), hts (.selects RX0 yX0_copyFrom yX0_copyFrom) (by decide +kernel)⟩ ⟨Pc0_blind, va_recv hT hP (q0 := 15) (ci := 0) rfl rfl, fun U hU hW => Pc0_at (Wd := (wX0 G (ado 2) ftrial ++ (wX0 G (ado 1) fnow))) hE (hP.subm [15, 16, 17, 18, 19, 20, 21, 22, 23, 24, 25, 4, 5, 6, 7, 8, 9, 10, 11, 12, 13, 14] rfl) (hD.sub [15, 16, 17, 18, 19, 20, 21, 22, 23, 24, 25, 4, 5, 6, 7, 8, 9, 10, 11, 12, 13, 14] (by decide) rfl) hU hW⟩ rfl rfl hl.1 rfl (lv_room (Nat.le_of_ble_eq_true rfl)) dX6_later_38 ⟨Nat.zero_le _, Nat.zero_le _⟩) hS hA hP hD (fun H locs hP hD hS => ?_)
        refine lv_aload_n hx hb dX6_later_41 rfl (lv_at hl 0 rfl) ?_
        refine va_get (C := RX6) (T := TX6) (N := 11) (ci := 6) (v := .ref ((ado 2) 0)) hx hb hts inX6 hown hT hP 0 rfl rfl 1 (Nat.le_of_ble_eq_true rfl) lk16 (fun _ h => h) rfl dX6_later_42 ?_
        refine lv_iload_n hx hb dX6_later_45 rfl (lv_at hl 3 rfl) ?_
        obtain ⟨⟨r46, ftrial_46⟩, hc46, hf⟩ := bd_e hf
        try dsimp only at hf
        refine cl_i_up (Wd := (wX6 G ad ado f ++ (wX0 G (ado 1) fnow ++ (wX0 G (ado 2) ftrial_38)))) (Wc := (wX0 G (ado 2) ftrial_38)) (W' := (wX0 G (ado 2) ftrial_46)) (W2 := (wX6 G ad ado f ++ (wX0 G (ado 1) fnow ++ (wX0 G (ado 2) ftrial_46)))) [15, 16, 17, 18, 19, 20, 21, 22, 23, 24, 25] [0, 1, 2, 3, 4, 5, 6, 7, 8, 9, 10, 11, 12, 13, 14] rfl rfl rfl rfl rfl (va_runVN (As := [.int x3]) (rest := []) hC (c_X0_passWeeks l G (ado 2) ftrial_38 x3 r46 ftrial_46 hc46 _) ⟨va_cnB 1 hts gX6_later_X0_passWeeks_n194 rfl rfl rfl (hE.2.2 (RX6, 194, yX0_passWeeks, "FeatherShares") (List.mem_of_getElem? (i := 21) rfl)) (hts (.initialized RX0) (by decide +kernel)) (by decide +kernel) ⟨Nat.le_of_ble_eq_true rfl, Nat.le_of_ble_eq_true rfl⟩, hts (.instanceMethod yX0_passWeeks) (by decide +kernel), hts (.selects RX0 yX0_passWeeks yX0_passWeeks) (by decide +kernel)⟩ ⟨Pc0_blind, va_recv hT hP (q0 := 15) (ci := 0) rfl rfl, fun U hU hW => Pc0_at (Wd := (wX0 G (ado 2) ftrial_38)) hE (hP.subm [15, 16, 17, 18, 19, 20, 21, 22, 23, 24, 25] rfl) (hD.sub [15, 16, 17, 18, 19, 20, 21, 22, 23, 24, 25] (by decide) rfl) hU hW⟩ rfl rfl hl.1 rfl (lv_room (Nat.le_of_ble_eq_true rfl)) dX6_later_46 ⟨Nat.zero_le _, Nat.zero_le _⟩) hS hA hP hD (fun H locs hP hD hS => ?_)
        refine lv_pop hx hb dX6_later_49 rfl ?_
        refine lv_aload_n hx hb dX6_later_50 rfl (lv_at hl 0 rfl) ?_
        refine va_get (C := RX6) (T := TX6) (N := 11) (ci := 6) (v := .ref ((ado 2) 0)) hx hb hts inX6 hown hT hP 0 rfl rfl 1 (Nat.le_of_ble_eq_true rfl) lk16 (fun _ h => h) rfl dX6_later_51 ?_
        refine lv_iload_n hx hb dX6_later_54 rfl (lv_at hl 1 rfl) ?_
        refine lv_iload_n hx hb dX6_later_55 rfl (lv_at hl 2 rfl) ?_
        obtain ⟨r56, hc56, hf⟩ := bd_e hf
        refine cl_i_ro (Wd := (wX6 G ad ado f ++ (wX0 G (ado 1) fnow ++ (wX0 G (ado 2) ftrial_46)))) (Wc := (wX0 G (ado 2) ftrial_46)) [15, 16, 17, 18, 19, 20, 21, 22, 23, 24, 25] rfl (va_runVN (As := [.int x1, .int x2]) (rest := []) hC (c_X0_held l G (ado 2) ftrial_46 x1 x2 r56 hc56 _) ⟨va_cnB 2 hts gX6_later_X0_held_n152 rfl rfl rfl (hE.2.2 (RX6, 152, yX0_held, "FeatherShares") (List.mem_of_getElem? (i := 14) rfl)) (hts (.initialized RX0) (by decide +kernel)) (by decide +kernel) ⟨Nat.le_of_ble_eq_true rfl, Nat.le_of_ble_eq_true rfl⟩, hts (.instanceMethod yX0_held) (by decide +kernel), hts (.selects RX0 yX0_held yX0_held) (by decide +kernel)⟩ ⟨Pc0_blind, va_recv hT hP (q0 := 15) (ci := 0) rfl rfl, fun U hU hW => Pc0_at (Wd := (wX0 G (ado 2) ftrial_46)) hE (hP.subm [15, 16, 17, 18, 19, 20, 21, 22, 23, 24, 25] rfl) (hD.sub [15, 16, 17, 18, 19, 20, 21, 22, 23, 24, 25] (by decide) rfl) hU hW⟩ rfl rfl hl.1 rfl (lv_room (Nat.le_of_ble_eq_true rfl)) dX6_later_56 ⟨Nat.zero_le _, Nat.zero_le _⟩) hS hA hP hD (fun H locs hP hD hS => ?_)
        have hK9 := K0_of hf hK
        exact hRet r56 ftrial_46 _ _ _ _ hK9 dX6_later_59 hP hD hS
      · have hf := if_t hf hc
        refine lv_iconst (v := (-1 : Int32)) hx hb dX6_later_28 (ic_m1) ?_
        have hK9 := K0_of hf hK
        exact hRet (-1 : Int32) ftrial _ _ _ _ hK9 dX6_later_29 hP hD hS
noncomputable def p_X6_eggs (f : Mem) (fnow : Mem) (ftrial : Mem) (x1 : Int32) (x2 : Int32) : Option (Int32 × Mem) :=
  Option.bind (p_X6_isOwner x1) <| fun r1 =>
  if r1 = 0 then
    (some ((-1 : Int32), ftrial))
  else
    (Option.bind (p_X6_isWithin x2 (nI 0) (nI 60)) <| fun r11 =>
     if r11 = 0 then
       (some ((-1 : Int32), ftrial))
     else
       (Option.bind (p_X0_copyFrom ftrial fnow) <| fun ftrial_27 =>
        Option.bind (p_X0_passWeeks ftrial_27 x2) <| fun (r35, ftrial_35) =>
        gd (inb x1 5) <|
        some ((ftrial_35 6 x1.toNatClampNeg), ftrial_35)))
set_option maxHeartbeats 4000000 in
set_option maxRecDepth 100000 in
theorem c_X6_eggs (l : Launch) (G : Gt) (ad : Nat → Nat) (ado : Nat → Nat → Nat) (f : Mem) (fnow : Mem) (ftrial : Mem) (x1 : Int32) (x2 : Int32) (r : Int32) (ftrialz : Mem) (hf : p_X6_eggs f fnow ftrial x1 x2 = some (r, ftrialz)) (sz : Nat) : Met l yX6_eggs wsX6_eggs ({ frames := 5, cells := 0, slots := 0, locals := 133 }) (Pc0 G sz [.ref (ad 0), .int x1, .int x2] (wX6 G ad ado f ++ (wX0 G (ado 1) fnow ++ (wX0 G (ado 2) ftrial)))) (Qi0 G (va_A (wX6 G ad ado f ++ (wX0 G (ado 1) fnow ++ (wX0 G (ado 2) ftrial))) sz) r (wX6 G ad ado f ++ (wX0 G (ado 1) fnow ++ (wX0 G (ado 2) ftrialz)))) 0 0 (va_A (wX6 G ad ado f ++ (wX0 G (ado 1) fnow ++ (wX0 G (ado 2) ftrial))) sz) := by
  refine metP (Qf := fun A => Qi0 G A r (wX6 G ad ado f ++ (wX0 G (ado 1) fnow ++ (wX0 G (ado 2) ftrialz)))) cX6_eggs 3 (some .int) (by decide) rfl (Nat.le_of_ble_eq_true rfl) ?_
  intro p e s m below meth c A ls hC hr hlocks hin hE hA hsz hP hD hS hl
  generalize hargs : ([.ref (ad 0), .int x1, .int x2] : List Value).toArray = args at hC ⊢
  obtain ⟨hx, hb, hml, hown, hts⟩ := id hC
  have hT : va_K G.1 vwCl (tyL G) s := hE.1
  have hRet : ∀ (r9 : Int32) (ftrial9 : Mem) (H : Heap) (locs : List Loc) (ls : Array Slot) (pc : Nat) (hK9 : (r9, ftrial9) = (r, ftrialz)) (hdg : decode cX6_eggs pc = .ok (.ireturn, 1)), va_P G.1 vwCl (wX6 G ad ado f ++ (wX0 G (ado 1) fnow ++ (wX0 G (ado 2) ftrial9))) H → va_D A (wX6 G ad ado f ++ (wX0 G (ado 1) fnow ++ (wX0 G (ado 2) ftrial9))) → va_S A s.heap H locs → W p l e ({ frames := 5, cells := 0, slots := 0, locals := 133 }) s m args below meth c H locs 0 0 (MQ below (Qi0 G A r (wX6 G ad ado f ++ (wX0 G (ado 1) fnow ++ (wX0 G (ado 2) ftrialz)))) args s 0 0 A) (F0 m pc ls [.int r9]) := by
    intro r9 ftrial9 H locs ls pc hK9 hdg hP hD hS
    cases hK9
    exact W.iret hx hb hr (fun t ht hW => ⟨⟨r, (), rfl, rfl, by rw [ht]; exact hP, hD⟩, hS.F ht⟩) hS.2.2 hdg hlocks
  generalize MQ below (Qi0 G A r (wX6 G ad ado f ++ (wX0 G (ado 1) fnow ++ (wX0 G (ado 2) ftrialz)))) args s 0 0 A = Q at hRet ⊢
  have lk16 := hts (.fieldLink RX6 16 "FeatherShares" "trial" "LFeatherShares$Flock;") (by decide +kernel)
  have inX6 : ∀ w ∈ u_ws RX6 TX6 11, w ∈ wsX6_eggs := by decide +kernel
  have lk12 := hts (.fieldLink RX6 12 "FeatherShares" "now" "LFeatherShares$Flock;") (by decide +kernel)
  have lk119 := va_Nw.use (A := args) rfl (hE.2.1 (RX6, 119, "FeatherShares$Flock", "eggsHad", "[I", "FeatherShares") (List.mem_of_getElem? (i := 10) rfl))
  have inX0 : ∀ w ∈ u_ws RX0 TX0 13, w ∈ wsX6_eggs := by decide +kernel
  have hl : lv_has ls 3 [(0, .ref (ad 0)), (1, .int x1), (2, .int x2)] := hl
  have hK0 : (r, ftrialz) = (r, ftrialz) := rfl
  obtain ⟨res, hres, hK⟩ : ∃ res, p_X6_eggs f fnow ftrial x1 x2 = some res ∧ res = (r, ftrialz) := ⟨_, hf, rfl⟩
  clear hf
  have hf := hres
  clear hres
  unfold p_X6_eggs at hf
  refine lv_iload_n hx hb dX6_eggs_0 rfl (lv_at hl 1 rfl) ?_
  obtain ⟨r1, hc1, hf⟩ := bd_e hf
  refine cl_z_ro (Wd := (wX6 G ad ado f ++ (wX0 G (ado 1) fnow ++ (wX0 G (ado 2) ftrial)))) (Wc := ([] : va_W)) [] rfl (va_runS (As := [.int x1]) (rest := []) hC (c_X6_isOwner l G x1 r1 hc1 _) (va_cwS 1 hts gX6_eggs_X6_isOwner rfl rfl rfl (by decide +kernel) ⟨Nat.le_of_ble_eq_true rfl, Nat.le_of_ble_eq_true rfl⟩) ⟨Pc0_blind, fun U hU hW => Pc0_at (Wd := ([] : va_W)) hE (hP.subm [] rfl) (hD.sub [] (by decide) rfl) hU hW⟩ rfl rfl hl.1 rfl (lv_room (Nat.le_of_ble_eq_true rfl)) dX6_eggs_1 ⟨Nat.zero_le _, Nat.zero_le _⟩) hS hA hP hD (fun H locs hn1 hP hD hS => ?_)
  refine lv_if_eq (tgt := 17) hx hb dX6_eggs_4 (by decide) (fun hc => ?_) (fun hc => ?_)
  · have hf := if_t hf hc
    refine lv_iconst (v := (-1 : Int32)) hx hb dX6_eggs_17 (ic_m1) ?_
    have hK9 := K0_of hf hK
    exact hRet (-1 : Int32) ftrial _ _ _ _ hK9 dX6_eggs_18 hP hD hS
  · have hf := if_f hf hc
    refine lv_iload_n hx hb dX6_eggs_7 rfl (lv_at hl 2 rfl) ?_
    refine lv_iconst (v := (nI 0)) hx hb dX6_eggs_8 (ic_0) ?_
    refine lv_bipush (v := (nI 60)) hx hb dX6_eggs_9 (bi_60) ?_
    obtain ⟨r11, hc11, hf⟩ := bd_e hf
    refine cl_z_ro (Wd := (wX6 G ad ado f ++ (wX0 G (ado 1) fnow ++ (wX0 G (ado 2) ftrial)))) (Wc := ([] : va_W)) [] rfl (va_runS (As := [.int x2, .int (nI 0), .int (nI 60)]) (rest := []) hC (c_X6_isWithin l G x2 (nI 0) (nI 60) r11 hc11 _) (va_cwS 3 hts gX6_eggs_X6_isWithin rfl rfl rfl (by decide +kernel) ⟨Nat.le_of_ble_eq_true rfl, Nat.le_of_ble_eq_true rfl⟩) ⟨Pc0_blind, fun U hU hW => Pc0_at (Wd := ([] : va_W)) hE (hP.subm [] rfl) (hD.sub [] (by decide) rfl) hU hW⟩ rfl rfl hl.1 rfl (lv_room (Nat.le_of_ble_eq_true rfl)) dX6_eggs_11 ⟨Nat.zero_le _, Nat.zero_le _⟩) hS hA hP hD (fun H locs hn11 hP hD hS => ?_)
    refine lv_if_ne (tgt := 19) hx hb dX6_eggs_14 (by decide) (fun hc => ?_) (fun hc => ?_)
    · have hf := if_f hf hc
      refine lv_aload_n hx hb dX6_eggs_19 rfl (lv_at hl 0 rfl) ?_
      refine va_get (C := RX6) (T := TX6) (N := 11) (ci := 6) (v := .ref ((ado 2) 0)) hx hb hts inX6 hown hT hP 0 rfl rfl 1 (Nat.le_of_ble_eq_true rfl) lk16 (fun _ h => h) rfl dX6_eggs_20 ?_
      refine lv_aload_n hx hb dX6_eggs_23 rfl (lv_at hl 0 rfl) ?_
      refine va_get (C := RX6) (T := TX6) (N := 11) (ci := 6) (v := .ref ((ado 1) 0)) hx hb hts inX6 hown hT hP 0 rfl rfl 0 (Nat.le_of_ble_eq_true rfl) lk12 (fun _ h => h) rfl dX6_eggs_24 ?_
      obtain ⟨ftrial_27, hc27, hf⟩ := bd_e hf
      refine cl_v_up (Wd := (wX6 G ad ado f ++ (wX0 G (ado 1) fnow ++ (wX0 G (ado 2) ftrial)))) (Wc := (wX0 G (ado 2) ftrial ++ (wX0 G (ado 1) fnow))) (W' := (wX0 G (ado 2) ftrial_27 ++ (wX0 G (ado 1) fnow))) (W2 := (wX6 G ad ado f ++ (wX0 G (ado 1) fnow ++ (wX0 G (ado 2) ftrial_27)))) [15, 16, 17, 18, 19, 20, 21, 22, 23, 24, 25, 4, 5, 6, 7, 8, 9, 10, 11, 12, 13, 14] [0, 1, 2, 3] rfl rfl rfl rfl rfl (va_runVN (As := [.ref ((ado 1) 0)]) (rest := []) hC (c_X0_copyFrom l G (ado 2) (ado 1) ftrial fnow ftrial_27 hc27 _) ⟨va_cnB 1 hts gX6_eggs_X0_copyFrom_n93 rfl rfl rfl (hE.2.2 (RX6, 93, yX0_copyFrom, "FeatherShares") (List.mem_of_getElem? (i := 8) rfl)) (hts (.initialized RX0) (by decide +kernel)) (by decide +kernel) ⟨Nat.le_of_ble_eq_true rfl, Nat.le_of_ble_eq_true rfl⟩, hts (.instanceMethod yX0_copyFrom) (by decide +kernel), hts (.selects RX0 yX0_copyFrom yX0_copyFrom) (by decide +kernel)⟩ ⟨Pc0_blind, va_recv hT hP (q0 := 15) (ci := 0) rfl rfl, fun U hU hW => Pc0_at (Wd := (wX0 G (ado 2) ftrial ++ (wX0 G (ado 1) fnow))) hE (hP.subm [15, 16, 17, 18, 19, 20, 21, 22, 23, 24, 25, 4, 5, 6, 7, 8, 9, 10, 11, 12, 13, 14] rfl) (hD.sub [15, 16, 17, 18, 19, 20, 21, 22, 23, 24, 25, 4, 5, 6, 7, 8, 9, 10, 11, 12, 13, 14] (by decide) rfl) hU hW⟩ rfl rfl hl.1 rfl (lv_room (Nat.le_of_ble_eq_true rfl)) dX6_eggs_27 ⟨Nat.zero_le _, Nat.zero_le _⟩) hS hA hP hD (fun H locs hP hD hS => ?_)
      refine lv_aload_n hx hb dX6_eggs_30 rfl (lv_at hl 0 rfl) ?_
      refine va_get (C := RX6) (T := TX6) (N := 11) (ci := 6) (v := .ref ((ado 2) 0)) hx hb hts inX6 hown hT hP 0 rfl rfl 1 (Nat.le_of_ble_eq_true rfl) lk16 (fun _ h => h) rfl dX6_eggs_31 ?_
      refine lv_iload_n hx hb dX6_eggs_34 rfl (lv_at hl 2 rfl) ?_
      obtain ⟨⟨r35, ftrial_35⟩, hc35, hf⟩ := bd_e hf
      try dsimp only at hf
      refine cl_i_up (Wd := (wX6 G ad ado f ++ (wX0 G (ado 1) fnow ++ (wX0 G (ado 2) ftrial_27)))) (Wc := (wX0 G (ado 2) ftrial_27)) (W' := (wX0 G (ado 2) ftrial_35)) (W2 := (wX6 G ad ado f ++ (wX0 G (ado 1) fnow ++ (wX0 G (ado 2) ftrial_35)))) [15, 16, 17, 18, 19, 20, 21, 22, 23, 24, 25] [0, 1, 2, 3, 4, 5, 6, 7, 8, 9, 10, 11, 12, 13, 14] rfl rfl rfl rfl rfl (va_runVN (As := [.int x2]) (rest := []) hC (c_X0_passWeeks l G (ado 2) ftrial_27 x2 r35 ftrial_35 hc35 _) ⟨va_cnB 1 hts gX6_eggs_X0_passWeeks_n194 rfl rfl rfl (hE.2.2 (RX6, 194, yX0_passWeeks, "FeatherShares") (List.mem_of_getElem? (i := 21) rfl)) (hts (.initialized RX0) (by decide +kernel)) (by decide +kernel) ⟨Nat.le_of_ble_eq_true rfl, Nat.le_of_ble_eq_true rfl⟩, hts (.instanceMethod yX0_passWeeks) (by decide +kernel), hts (.selects RX0 yX0_passWeeks yX0_passWeeks) (by decide +kernel)⟩ ⟨Pc0_blind, va_recv hT hP (q0 := 15) (ci := 0) rfl rfl, fun U hU hW => Pc0_at (Wd := (wX0 G (ado 2) ftrial_27)) hE (hP.subm [15, 16, 17, 18, 19, 20, 21, 22, 23, 24, 25] rfl) (hD.sub [15, 16, 17, 18, 19, 20, 21, 22, 23, 24, 25] (by decide) rfl) hU hW⟩ rfl rfl hl.1 rfl (lv_room (Nat.le_of_ble_eq_true rfl)) dX6_eggs_35 ⟨Nat.zero_le _, Nat.zero_le _⟩) hS hA hP hD (fun H locs hP hD hS => ?_)
      refine lv_pop hx hb dX6_eggs_38 rfl ?_
      refine lv_aload_n hx hb dX6_eggs_39 rfl (lv_at hl 0 rfl) ?_
      refine va_get (C := RX6) (T := TX6) (N := 11) (ci := 6) (v := .ref ((ado 2) 0)) hx hb hts inX6 hown hT hP 0 rfl rfl 1 (Nat.le_of_ble_eq_true rfl) lk16 (fun _ h => h) rfl dX6_eggs_40 ?_
      refine va_getN (C := RX0) (T := TX0) (N := 13) (ci := 0) (v := .ref ((ado 2) 6)) hx hb hts inX0 hown hT hP 15 rfl rfl 8 (Nat.le_of_ble_eq_true rfl) lk119 (fun _ h => h) rfl dX6_eggs_43 ?_
      refine lv_iload_n hx hb dX6_eggs_46 rfl (lv_at hl 1 rfl) ?_
      obtain ⟨hg, hf⟩ := gd_e hf
      refine va_iald (f := ftrial_35 6) hx hb hT hP 21 0 rfl rfl (inb_e hg) dX6_eggs_47 ?_
      have hK9 := K0_of hf hK
      exact hRet (ftrial_35 6 x1.toNatClampNeg) ftrial_35 _ _ _ _ hK9 dX6_eggs_48 hP hD hS
    · have hf := if_t hf hc
      refine lv_iconst (v := (-1 : Int32)) hx hb dX6_eggs_17 (ic_m1) ?_
      have hK9 := K0_of hf hK
      exact hRet (-1 : Int32) ftrial _ _ _ _ hK9 dX6_eggs_18 hP hD hS
noncomputable def p_X6_bare_L37 (f : Mem) (fnow : Mem) (x1 : Int32) (x2 : Int32) (z : Int32 × Mem) : Option ((Int32 × Mem) ⊕ (Mem ⊕ (Int32 × Mem))) :=
  match z with
  | (x3, ftrial_) =>
    if (nI 60) < x3 then
      (some (Sum.inr (Sum.inl ftrial_)))
    else
      (Option.bind (p_X0_feathersOf ftrial_ x1) <| fun r48 =>
       if x2 < r48 then
         (Option.bind (p_X0_passWeek ftrial_) <| fun (r61, ftrial_61) =>
          some (Sum.inl ((x3 + nI 1), ftrial_61)))
       else
         (some (Sum.inr (Sum.inr (x3, ftrial_)))))
noncomputable def p_X6_bare (f : Mem) (fnow : Mem) (ftrial : Mem) (x1 : Int32) (x2 : Int32) : Option (Int32 × Mem) :=
  Option.bind (p_X0_hasGoose fnow x1) <| fun r5 =>
  if r5 = 0 then
    (some ((-1 : Int32), ftrial))
  else
    (Option.bind (p_X6_isWithin x2 (nI 0) (nI 495)) <| fun r16 =>
     if r16 = 0 then
       (some ((-1 : Int32), ftrial))
     else
       (Option.bind (p_X0_copyFrom ftrial fnow) <| fun ftrial_32 =>
        Option.bind (lp (p_X6_bare_L37 f fnow x1 x2) ((nI 0), ftrial_32)) <| Sum.elim (fun ftrial_37 =>
          some ((-4 : Int32), ftrial_37)) some))
set_option maxHeartbeats 4000000 in
set_option maxRecDepth 100000 in
theorem c_X6_bare (l : Launch) (G : Gt) (ad : Nat → Nat) (ado : Nat → Nat → Nat) (f : Mem) (fnow : Mem) (ftrial : Mem) (x1 : Int32) (x2 : Int32) (r : Int32) (ftrialz : Mem) (hf : p_X6_bare f fnow ftrial x1 x2 = some (r, ftrialz)) (sz : Nat) : Met l yX6_bare wsX6_bare ({ frames := 4, cells := 0, slots := 0, locals := 110 }) (Pc0 G sz [.ref (ad 0), .int x1, .int x2] (wX6 G ad ado f ++ (wX0 G (ado 1) fnow ++ (wX0 G (ado 2) ftrial)))) (Qi0 G (va_A (wX6 G ad ado f ++ (wX0 G (ado 1) fnow ++ (wX0 G (ado 2) ftrial))) sz) r (wX6 G ad ado f ++ (wX0 G (ado 1) fnow ++ (wX0 G (ado 2) ftrialz)))) 0 0 (va_A (wX6 G ad ado f ++ (wX0 G (ado 1) fnow ++ (wX0 G (ado 2) ftrial))) sz) := by
  refine metP (Qf := fun A => Qi0 G A r (wX6 G ad ado f ++ (wX0 G (ado 1) fnow ++ (wX0 G (ado 2) ftrialz)))) cX6_bare 4 (some .int) (by decide) rfl (Nat.le_of_ble_eq_true rfl) ?_
  intro p e s m below meth c A ls hC hr hlocks hin hE hA hsz hP hD hS hl
  generalize hargs : ([.ref (ad 0), .int x1, .int x2] : List Value).toArray = args at hC ⊢
  obtain ⟨hx, hb, hml, hown, hts⟩ := id hC
  have hT : va_K G.1 vwCl (tyL G) s := hE.1
  have hRet : ∀ (r9 : Int32) (ftrial9 : Mem) (H : Heap) (locs : List Loc) (ls : Array Slot) (pc : Nat) (hK9 : (r9, ftrial9) = (r, ftrialz)) (hdg : decode cX6_bare pc = .ok (.ireturn, 1)), va_P G.1 vwCl (wX6 G ad ado f ++ (wX0 G (ado 1) fnow ++ (wX0 G (ado 2) ftrial9))) H → va_D A (wX6 G ad ado f ++ (wX0 G (ado 1) fnow ++ (wX0 G (ado 2) ftrial9))) → va_S A s.heap H locs → W p l e ({ frames := 4, cells := 0, slots := 0, locals := 110 }) s m args below meth c H locs 0 0 (MQ below (Qi0 G A r (wX6 G ad ado f ++ (wX0 G (ado 1) fnow ++ (wX0 G (ado 2) ftrialz)))) args s 0 0 A) (F0 m pc ls [.int r9]) := by
    intro r9 ftrial9 H locs ls pc hK9 hdg hP hD hS
    cases hK9
    exact W.iret hx hb hr (fun t ht hW => ⟨⟨r, (), rfl, rfl, by rw [ht]; exact hP, hD⟩, hS.F ht⟩) hS.2.2 hdg hlocks
  generalize MQ below (Qi0 G A r (wX6 G ad ado f ++ (wX0 G (ado 1) fnow ++ (wX0 G (ado 2) ftrialz)))) args s 0 0 A = Q at hRet ⊢
  have lk12 := hts (.fieldLink RX6 12 "FeatherShares" "now" "LFeatherShares$Flock;") (by decide +kernel)
  have inX6 : ∀ w ∈ u_ws RX6 TX6 11, w ∈ wsX6_bare := by decide +kernel
  have lk16 := hts (.fieldLink RX6 16 "FeatherShares" "trial" "LFeatherShares$Flock;") (by decide +kernel)
  have hl : lv_has ls 4 [(0, .ref (ad 0)), (1, .int x1), (2, .int x2)] := hl
  have hK0 : (r, ftrialz) = (r, ftrialz) := rfl
  obtain ⟨res, hres, hK⟩ : ∃ res, p_X6_bare f fnow ftrial x1 x2 = some res ∧ res = (r, ftrialz) := ⟨_, hf, rfl⟩
  clear hf
  have hf := hres
  clear hres
  unfold p_X6_bare at hf
  refine lv_aload_n hx hb dX6_bare_0 rfl (lv_at hl 0 rfl) ?_
  refine va_get (C := RX6) (T := TX6) (N := 11) (ci := 6) (v := .ref ((ado 1) 0)) hx hb hts inX6 hown hT hP 0 rfl rfl 0 (Nat.le_of_ble_eq_true rfl) lk12 (fun _ h => h) rfl dX6_bare_1 ?_
  refine lv_iload_n hx hb dX6_bare_4 rfl (lv_at hl 1 rfl) ?_
  obtain ⟨r5, hc5, hf⟩ := bd_e hf
  refine cl_z_ro (Wd := (wX6 G ad ado f ++ (wX0 G (ado 1) fnow ++ (wX0 G (ado 2) ftrial)))) (Wc := (wX0 G (ado 1) fnow)) [4, 5, 6, 7, 8, 9, 10, 11, 12, 13, 14] rfl (va_runVN (As := [.int x1]) (rest := []) hC (c_X0_hasGoose l G (ado 1) fnow x1 r5 hc5 _) ⟨va_cnB 1 hts gX6_bare_X0_hasGoose_n126 rfl rfl rfl (hE.2.2 (RX6, 126, yX0_hasGoose, "FeatherShares") (List.mem_of_getElem? (i := 10) rfl)) (hts (.initialized RX0) (by decide +kernel)) (by decide +kernel) ⟨Nat.le_of_ble_eq_true rfl, Nat.le_of_ble_eq_true rfl⟩, hts (.instanceMethod yX0_hasGoose) (by decide +kernel), hts (.selects RX0 yX0_hasGoose yX0_hasGoose) (by decide +kernel)⟩ ⟨Pc0_blind, va_recv hT hP (q0 := 4) (ci := 0) rfl rfl, fun U hU hW => Pc0_at (Wd := (wX0 G (ado 1) fnow)) hE (hP.subm [4, 5, 6, 7, 8, 9, 10, 11, 12, 13, 14] rfl) (hD.sub [4, 5, 6, 7, 8, 9, 10, 11, 12, 13, 14] (by decide) rfl) hU hW⟩ rfl rfl hl.1 rfl (lv_room (Nat.le_of_ble_eq_true rfl)) dX6_bare_5 ⟨Nat.zero_le _, Nat.zero_le _⟩) hS hA hP hD (fun H locs hn5 hP hD hS => ?_)
  refine lv_if_eq (tgt := 22) hx hb dX6_bare_8 (by decide) (fun hc => ?_) (fun hc => ?_)
  · have hf := if_t hf hc
    refine lv_iconst (v := (-1 : Int32)) hx hb dX6_bare_22 (ic_m1) ?_
    have hK9 := K0_of hf hK
    exact hRet (-1 : Int32) ftrial _ _ _ _ hK9 dX6_bare_23 hP hD hS
  · have hf := if_f hf hc
    refine lv_iload_n hx hb dX6_bare_11 rfl (lv_at hl 2 rfl) ?_
    refine lv_iconst (v := (nI 0)) hx hb dX6_bare_12 (ic_0) ?_
    refine lv_sipush (v := (nI 495)) hx hb dX6_bare_13 (si_495) ?_
    obtain ⟨r16, hc16, hf⟩ := bd_e hf
    refine cl_z_ro (Wd := (wX6 G ad ado f ++ (wX0 G (ado 1) fnow ++ (wX0 G (ado 2) ftrial)))) (Wc := ([] : va_W)) [] rfl (va_runS (As := [.int x2, .int (nI 0), .int (nI 495)]) (rest := []) hC (c_X6_isWithin l G x2 (nI 0) (nI 495) r16 hc16 _) (va_cwS 3 hts gX6_bare_X6_isWithin rfl rfl rfl (by decide +kernel) ⟨Nat.le_of_ble_eq_true rfl, Nat.le_of_ble_eq_true rfl⟩) ⟨Pc0_blind, fun U hU hW => Pc0_at (Wd := ([] : va_W)) hE (hP.subm [] rfl) (hD.sub [] (by decide) rfl) hU hW⟩ rfl rfl hl.1 rfl (lv_room (Nat.le_of_ble_eq_true rfl)) dX6_bare_16 ⟨Nat.zero_le _, Nat.zero_le _⟩) hS hA hP hD (fun H locs hn16 hP hD hS => ?_)
    refine lv_if_ne (tgt := 24) hx hb dX6_bare_19 (by decide) (fun hc => ?_) (fun hc => ?_)
    · have hf := if_f hf hc
      refine lv_aload_n hx hb dX6_bare_24 rfl (lv_at hl 0 rfl) ?_
      refine va_get (C := RX6) (T := TX6) (N := 11) (ci := 6) (v := .ref ((ado 2) 0)) hx hb hts inX6 hown hT hP 0 rfl rfl 1 (Nat.le_of_ble_eq_true rfl) lk16 (fun _ h => h) rfl dX6_bare_25 ?_
      refine lv_aload_n hx hb dX6_bare_28 rfl (lv_at hl 0 rfl) ?_
      refine va_get (C := RX6) (T := TX6) (N := 11) (ci := 6) (v := .ref ((ado 1) 0)) hx hb hts inX6 hown hT hP 0 rfl rfl 0 (Nat.le_of_ble_eq_true rfl) lk12 (fun _ h => h) rfl dX6_bare_29 ?_
      obtain ⟨ftrial_32, hc32, hf⟩ := bd_e hf
      refine cl_v_up (Wd := (wX6 G ad ado f ++ (wX0 G (ado 1) fnow ++ (wX0 G (ado 2) ftrial)))) (Wc := (wX0 G (ado 2) ftrial ++ (wX0 G (ado 1) fnow))) (W' := (wX0 G (ado 2) ftrial_32 ++ (wX0 G (ado 1) fnow))) (W2 := (wX6 G ad ado f ++ (wX0 G (ado 1) fnow ++ (wX0 G (ado 2) ftrial_32)))) [15, 16, 17, 18, 19, 20, 21, 22, 23, 24, 25, 4, 5, 6, 7, 8, 9, 10, 11, 12, 13, 14] [0, 1, 2, 3] rfl rfl rfl rfl rfl (va_runVN (As := [.ref ((ado 1) 0)]) (rest := []) hC (c_X0_copyFrom l G (ado 2) (ado 1) ftrial fnow ftrial_32 hc32 _) ⟨va_cnB 1 hts gX6_bare_X0_copyFrom_n93 rfl rfl rfl (hE.2.2 (RX6, 93, yX0_copyFrom, "FeatherShares") (List.mem_of_getElem? (i := 8) rfl)) (hts (.initialized RX0) (by decide +kernel)) (by decide +kernel) ⟨Nat.le_of_ble_eq_true rfl, Nat.le_of_ble_eq_true rfl⟩, hts (.instanceMethod yX0_copyFrom) (by decide +kernel), hts (.selects RX0 yX0_copyFrom yX0_copyFrom) (by decide +kernel)⟩ ⟨Pc0_blind, va_recv hT hP (q0 := 15) (ci := 0) rfl rfl, fun U hU hW => Pc0_at (Wd := (wX0 G (ado 2) ftrial ++ (wX0 G (ado 1) fnow))) hE (hP.subm [15, 16, 17, 18, 19, 20, 21, 22, 23, 24, 25, 4, 5, 6, 7, 8, 9, 10, 11, 12, 13, 14] rfl) (hD.sub [15, 16, 17, 18, 19, 20, 21, 22, 23, 24, 25, 4, 5, 6, 7, 8, 9, 10, 11, 12, 13, 14] (by decide) rfl) hU hW⟩ rfl rfl hl.1 rfl (lv_room (Nat.le_of_ble_eq_true rfl)) dX6_bare_32 ⟨Nat.zero_le _, Nat.zero_le _⟩) hS hA hP hD (fun H locs hP hD hS => ?_)
      refine lv_iconst (v := (nI 0)) hx hb dX6_bare_35 (ic_0) ?_
      refine lv_istore_n (lv' := [(3, .int (nI 0)), (0, .ref (ad 0)), (1, .int x1), (2, .int x2)]) hx hb dX6_bare_36 rfl hl (by decide) rfl (fun ls hl => ?_)
      obtain ⟨ze, hlp, hf⟩ := bd_e hf
      refine lp_W2 (p_X6_bare_L37 f fnow x1 x2) (fun z => match z with | (x3, ftrial_) => ∀ (H : Heap) (locs : List Loc) (ls : Array Slot), va_P G.1 vwCl (wX6 G ad ado f ++ (wX0 G (ado 1) fnow ++ (wX0 G (ado 2) ftrial_))) H → va_D A (wX6 G ad ado f ++ (wX0 G (ado 1) fnow ++ (wX0 G (ado 2) ftrial_))) → va_S A s.heap H locs → lv_has ls 4 [(0, .ref (ad 0)), (1, .int x1), (2, .int x2), (3, .int x3)] → W p l e ({ frames := 4, cells := 0, slots := 0, locals := 110 }) s m args below meth c H locs 0 0 Q (F0 m 37 ls [])) (fun (ftrial_37 : Mem) => ∀ (H : Heap) (locs : List Loc) (ls : Array Slot), va_P G.1 vwCl (wX6 G ad ado f ++ (wX0 G (ado 1) fnow ++ (wX0 G (ado 2) ftrial_37))) H → va_D A (wX6 G ad ado f ++ (wX0 G (ado 1) fnow ++ (wX0 G (ado 2) ftrial_37))) → va_S A s.heap H locs → lv_has ls 4 [] → W p l e ({ frames := 4, cells := 0, slots := 0, locals := 110 }) s m args below meth c H locs 0 0 Q (F0 m 71 ls [])) (fun z => z = (r, ftrialz)) ?_ hlp ?_ _ _ _ hP hD hS (lv_sub hl [1, 2, 3, 0] rfl)
      · clear hlp hf hK hP hD hS hl
        intro K37 hW37 hX37 hO37
        rintro ⟨x3, ftrial_⟩ res hf hK H locs ls hP hD hS hl
        unfold p_X6_bare_L37 at hf
        dsimp only at hf
        refine lv_iload_n hx hb dX6_bare_37 rfl (lv_at hl 3 rfl) ?_
        refine lv_bipush (v := (nI 60)) hx hb dX6_bare_38 (bi_60) ?_
        refine lv_icmp_gt (tgt := 71) hx hb dX6_bare_40 (by decide) (fun hc => ?_) (fun hc => ?_)
        · have hf := if_t hf hc
          have hK9 := K_of hf hK
          have hK9 := hX37 _ hK9
          exact hK9 _ _ _ hP hD hS (lv_sub hl [] rfl)
        · have hf := if_f hf hc
          refine lv_aload_n hx hb dX6_bare_43 rfl (lv_at hl 0 rfl) ?_
          refine va_get (C := RX6) (T := TX6) (N := 11) (ci := 6) (v := .ref ((ado 2) 0)) hx hb hts inX6 hown hT hP 0 rfl rfl 1 (Nat.le_of_ble_eq_true rfl) lk16 (fun _ h => h) rfl dX6_bare_44 ?_
          refine lv_iload_n hx hb dX6_bare_47 rfl (lv_at hl 1 rfl) ?_
          obtain ⟨r48, hc48, hf⟩ := bd_e hf
          refine cl_i_ro (Wd := (wX6 G ad ado f ++ (wX0 G (ado 1) fnow ++ (wX0 G (ado 2) ftrial_)))) (Wc := (wX0 G (ado 2) ftrial_)) [15, 16, 17, 18, 19, 20, 21, 22, 23, 24, 25] rfl (va_runVN (As := [.int x1]) (rest := []) hC (c_X0_feathersOf l G (ado 2) ftrial_ x1 r48 hc48 _) ⟨va_cnB 1 hts gX6_bare_X0_feathersOf_n138 rfl rfl rfl (hE.2.2 (RX6, 138, yX0_feathersOf, "FeatherShares") (List.mem_of_getElem? (i := 11) rfl)) (hts (.initialized RX0) (by decide +kernel)) (by decide +kernel) ⟨Nat.le_of_ble_eq_true rfl, Nat.le_of_ble_eq_true rfl⟩, hts (.instanceMethod yX0_feathersOf) (by decide +kernel), hts (.selects RX0 yX0_feathersOf yX0_feathersOf) (by decide +kernel)⟩ ⟨Pc0_blind, va_recv hT hP (q0 := 15) (ci := 0) rfl rfl, fun U hU hW => Pc0_at (Wd := (wX0 G (ado 2) ftrial_)) hE (hP.subm [15, 16, 17, 18, 19, 20, 21, 22, 23, 24, 25] rfl) (hD.sub [15, 16, 17, 18, 19, 20, 21, 22, 23, 24, 25] (by decide) rfl) hU hW⟩ rfl rfl hl.1 rfl (lv_room (Nat.le_of_ble_eq_true rfl)) dX6_bare_48 ⟨Nat.zero_le _, Nat.zero_le _⟩) hS hA hP hD (fun H locs hP hD hS => ?_)
          refine lv_iload_n hx hb dX6_bare_51 rfl (lv_at hl 2 rfl) ?_
          refine lv_icmp_gt (tgt := 57) hx hb dX6_bare_52 (by decide) (fun hc => ?_) (fun hc => ?_)
          · have hf := if_t hf hc
            refine lv_aload_n hx hb dX6_bare_57 rfl (lv_at hl 0 rfl) ?_
            refine va_get (C := RX6) (T := TX6) (N := 11) (ci := 6) (v := .ref ((ado 2) 0)) hx hb hts inX6 hown hT hP 0 rfl rfl 1 (Nat.le_of_ble_eq_true rfl) lk16 (fun _ h => h) rfl dX6_bare_58 ?_
            obtain ⟨⟨r61, ftrial_61⟩, hc61, hf⟩ := bd_e hf
            try dsimp only at hf
            refine cl_i_up (Wd := (wX6 G ad ado f ++ (wX0 G (ado 1) fnow ++ (wX0 G (ado 2) ftrial_)))) (Wc := (wX0 G (ado 2) ftrial_)) (W' := (wX0 G (ado 2) ftrial_61)) (W2 := (wX6 G ad ado f ++ (wX0 G (ado 1) fnow ++ (wX0 G (ado 2) ftrial_61)))) [15, 16, 17, 18, 19, 20, 21, 22, 23, 24, 25] [0, 1, 2, 3, 4, 5, 6, 7, 8, 9, 10, 11, 12, 13, 14] rfl rfl rfl rfl rfl (va_runVN (As := []) (rest := []) hC (c_X0_passWeek l G (ado 2) ftrial_ r61 ftrial_61 hc61 _) ⟨va_cnB 0 hts gX6_bare_X0_passWeek_n207 rfl rfl rfl (hE.2.2 (RX6, 207, yX0_passWeek, "FeatherShares") (List.mem_of_getElem? (i := 25) rfl)) (hts (.initialized RX0) (by decide +kernel)) (by decide +kernel) ⟨Nat.le_of_ble_eq_true rfl, Nat.le_of_ble_eq_true rfl⟩, hts (.instanceMethod yX0_passWeek) (by decide +kernel), hts (.selects RX0 yX0_passWeek yX0_passWeek) (by decide +kernel)⟩ ⟨Pc0_blind, va_recv hT hP (q0 := 15) (ci := 0) rfl rfl, fun U hU hW => Pc0_at (Wd := (wX0 G (ado 2) ftrial_)) hE (hP.subm [15, 16, 17, 18, 19, 20, 21, 22, 23, 24, 25] rfl) (hD.sub [15, 16, 17, 18, 19, 20, 21, 22, 23, 24, 25] (by decide) rfl) hU hW⟩ rfl rfl hl.1 rfl (lv_room (Nat.le_of_ble_eq_true rfl)) dX6_bare_61 ⟨Nat.zero_le _, Nat.zero_le _⟩) hS hA hP hD (fun H locs hP hD hS => ?_)
            refine lv_pop hx hb dX6_bare_64 rfl ?_
            refine lv_iinc (v := (x3 + nI 1)) (lv' := [(3, .int (x3 + nI 1)), (0, .ref (ad 0)), (1, .int x1), (2, .int x2)]) hx hb dX6_bare_65 hl (k := 3) rfl (ii_x 1 _) (by decide) rfl (fun ls hl => ?_)
            refine lv_goto (tgt := 37) hx hb dX6_bare_68 (by decide) ?_
            have hK9 := K_of hf hK
            have hK9 := hW37 _ hK9
            exact hK9 _ _ _ hP hD hS (lv_sub hl [1, 2, 3, 0] rfl)
          · have hf := if_f hf hc
            refine lv_iload_n hx hb dX6_bare_55 rfl (lv_at hl 3 rfl) ?_
            have hK9 := K_of hf hK
            have hK9 := hO37 _ hK9
            exact hRet x3 ftrial_ _ _ _ _ hK9 dX6_bare_56 hP hD hS
      · rcases ze with ftrial_37 | zo
        · try simp only [Sum.elim_inl] at hf
          try dsimp only at hf
          show ∀ (H : Heap) (locs : List Loc) (ls : Array Slot), va_P G.1 vwCl (wX6 G ad ado f ++ (wX0 G (ado 1) fnow ++ (wX0 G (ado 2) ftrial_37))) H → va_D A (wX6 G ad ado f ++ (wX0 G (ado 1) fnow ++ (wX0 G (ado 2) ftrial_37))) → va_S A s.heap H locs → lv_has ls 4 [] → W p l e ({ frames := 4, cells := 0, slots := 0, locals := 110 }) s m args below meth c H locs 0 0 Q (F0 m 71 ls [])
          intro H locs ls hP hD hS hl
          refine lv_bipush (v := (-4 : Int32)) hx hb dX6_bare_71 (bi_m4) ?_
          have hK9 := K0_of hf hK
          exact hRet (-4 : Int32) ftrial_37 _ _ _ _ hK9 dX6_bare_73 hP hD hS
        · have hK9 := K0_of (show some zo = some _ from hf) hK
          exact hK9
    · have hf := if_t hf hc
      refine lv_iconst (v := (-1 : Int32)) hx hb dX6_bare_22 (ic_m1) ?_
      have hK9 := K0_of hf hK
      exact hRet (-1 : Int32) ftrial _ _ _ _ hK9 dX6_bare_23 hP hD hS
noncomputable def p_X6_rich_L46 (f : Mem) (fnow : Mem) (ftrial : Mem) (x2 : Int32) (z : Int32 × Int32) : Option ((Int32 × Int32) ⊕ Int32) :=
  match z with
  | (x3, x4) =>
    if (nI 5) ≤ x4 then
      (some (Sum.inr x3))
    else
      (Option.bind (p_X0_worth ftrial x4) <| fun r58 =>
       Option.bind (p_X0_worth ftrial x3) <| fun r66 =>
       if r58 ≤ r66 then
         (some (Sum.inl (x3, (x4 + nI 1))))
       else
         (some (Sum.inl (x4, (x4 + nI 1)))))
noncomputable def p_X6_rich (f : Mem) (fnow : Mem) (ftrial : Mem) (x1 : Int32) (x2 : Int32) : Option (Int32 × Mem) :=
  Option.bind (p_X6_isWithin x1 (nI 0) (nI 60)) <| fun r4 =>
  if r4 = 0 then
    (some ((-1 : Int32), ftrial))
  else
    (Option.bind (p_X6_isWithin x2 (nI 0) (nI 1)) <| fun r13 =>
     if r13 = 0 then
       (some ((-1 : Int32), ftrial))
     else
       (Option.bind (p_X0_copyFrom ftrial fnow) <| fun ftrial_29 =>
        Option.bind (p_X0_passWeeks ftrial_29 x1) <| fun (r37, ftrial_37) =>
        Option.bind (lp (p_X6_rich_L46 f fnow ftrial_37 x2) ((nI 0), (nI 1))) <| fun y3_46 =>
        if x2 = 0 then
          (some (y3_46, ftrial_37))
        else
          (Option.bind (p_X0_worth ftrial_37 y3_46) <| fun r94 =>
           some (r94, ftrial_37))))
set_option maxHeartbeats 4000000 in
set_option maxRecDepth 100000 in
theorem c_X6_rich (l : Launch) (G : Gt) (ad : Nat → Nat) (ado : Nat → Nat → Nat) (f : Mem) (fnow : Mem) (ftrial : Mem) (x1 : Int32) (x2 : Int32) (r : Int32) (ftrialz : Mem) (hf : p_X6_rich f fnow ftrial x1 x2 = some (r, ftrialz)) (sz : Nat) : Met l yX6_rich wsX6_rich ({ frames := 5, cells := 0, slots := 0, locals := 133 }) (Pc0 G sz [.ref (ad 0), .int x1, .int x2] (wX6 G ad ado f ++ (wX0 G (ado 1) fnow ++ (wX0 G (ado 2) ftrial)))) (Qi0 G (va_A (wX6 G ad ado f ++ (wX0 G (ado 1) fnow ++ (wX0 G (ado 2) ftrial))) sz) r (wX6 G ad ado f ++ (wX0 G (ado 1) fnow ++ (wX0 G (ado 2) ftrialz)))) 0 0 (va_A (wX6 G ad ado f ++ (wX0 G (ado 1) fnow ++ (wX0 G (ado 2) ftrial))) sz) := by
  refine metP (Qf := fun A => Qi0 G A r (wX6 G ad ado f ++ (wX0 G (ado 1) fnow ++ (wX0 G (ado 2) ftrialz)))) cX6_rich 5 (some .int) (by decide) rfl (Nat.le_of_ble_eq_true rfl) ?_
  intro p e s m below meth c A ls hC hr hlocks hin hE hA hsz hP hD hS hl
  generalize hargs : ([.ref (ad 0), .int x1, .int x2] : List Value).toArray = args at hC ⊢
  obtain ⟨hx, hb, hml, hown, hts⟩ := id hC
  have hT : va_K G.1 vwCl (tyL G) s := hE.1
  have hRet : ∀ (r9 : Int32) (ftrial9 : Mem) (H : Heap) (locs : List Loc) (ls : Array Slot) (pc : Nat) (hK9 : (r9, ftrial9) = (r, ftrialz)) (hdg : decode cX6_rich pc = .ok (.ireturn, 1)), va_P G.1 vwCl (wX6 G ad ado f ++ (wX0 G (ado 1) fnow ++ (wX0 G (ado 2) ftrial9))) H → va_D A (wX6 G ad ado f ++ (wX0 G (ado 1) fnow ++ (wX0 G (ado 2) ftrial9))) → va_S A s.heap H locs → W p l e ({ frames := 5, cells := 0, slots := 0, locals := 133 }) s m args below meth c H locs 0 0 (MQ below (Qi0 G A r (wX6 G ad ado f ++ (wX0 G (ado 1) fnow ++ (wX0 G (ado 2) ftrialz)))) args s 0 0 A) (F0 m pc ls [.int r9]) := by
    intro r9 ftrial9 H locs ls pc hK9 hdg hP hD hS
    cases hK9
    exact W.iret hx hb hr (fun t ht hW => ⟨⟨r, (), rfl, rfl, by rw [ht]; exact hP, hD⟩, hS.F ht⟩) hS.2.2 hdg hlocks
  generalize MQ below (Qi0 G A r (wX6 G ad ado f ++ (wX0 G (ado 1) fnow ++ (wX0 G (ado 2) ftrialz)))) args s 0 0 A = Q at hRet ⊢
  have lk16 := hts (.fieldLink RX6 16 "FeatherShares" "trial" "LFeatherShares$Flock;") (by decide +kernel)
  have inX6 : ∀ w ∈ u_ws RX6 TX6 11, w ∈ wsX6_rich := by decide +kernel
  have lk12 := hts (.fieldLink RX6 12 "FeatherShares" "now" "LFeatherShares$Flock;") (by decide +kernel)
  have hl : lv_has ls 5 [(0, .ref (ad 0)), (1, .int x1), (2, .int x2)] := hl
  have hK0 : (r, ftrialz) = (r, ftrialz) := rfl
  obtain ⟨res, hres, hK⟩ : ∃ res, p_X6_rich f fnow ftrial x1 x2 = some res ∧ res = (r, ftrialz) := ⟨_, hf, rfl⟩
  clear hf
  have hf := hres
  clear hres
  unfold p_X6_rich at hf
  refine lv_iload_n hx hb dX6_rich_0 rfl (lv_at hl 1 rfl) ?_
  refine lv_iconst (v := (nI 0)) hx hb dX6_rich_1 (ic_0) ?_
  refine lv_bipush (v := (nI 60)) hx hb dX6_rich_2 (bi_60) ?_
  obtain ⟨r4, hc4, hf⟩ := bd_e hf
  refine cl_z_ro (Wd := (wX6 G ad ado f ++ (wX0 G (ado 1) fnow ++ (wX0 G (ado 2) ftrial)))) (Wc := ([] : va_W)) [] rfl (va_runS (As := [.int x1, .int (nI 0), .int (nI 60)]) (rest := []) hC (c_X6_isWithin l G x1 (nI 0) (nI 60) r4 hc4 _) (va_cwS 3 hts gX6_rich_X6_isWithin rfl rfl rfl (by decide +kernel) ⟨Nat.le_of_ble_eq_true rfl, Nat.le_of_ble_eq_true rfl⟩) ⟨Pc0_blind, fun U hU hW => Pc0_at (Wd := ([] : va_W)) hE (hP.subm [] rfl) (hD.sub [] (by decide) rfl) hU hW⟩ rfl rfl hl.1 rfl (lv_room (Nat.le_of_ble_eq_true rfl)) dX6_rich_4 ⟨Nat.zero_le _, Nat.zero_le _⟩) hS hA hP hD (fun H locs hn4 hP hD hS => ?_)
  refine lv_if_eq (tgt := 19) hx hb dX6_rich_7 (by decide) (fun hc => ?_) (fun hc => ?_)
  · have hf := if_t hf hc
    refine lv_iconst (v := (-1 : Int32)) hx hb dX6_rich_19 (ic_m1) ?_
    have hK9 := K0_of hf hK
    exact hRet (-1 : Int32) ftrial _ _ _ _ hK9 dX6_rich_20 hP hD hS
  · have hf := if_f hf hc
    refine lv_iload_n hx hb dX6_rich_10 rfl (lv_at hl 2 rfl) ?_
    refine lv_iconst (v := (nI 0)) hx hb dX6_rich_11 (ic_0) ?_
    refine lv_iconst (v := (nI 1)) hx hb dX6_rich_12 (ic_1) ?_
    obtain ⟨r13, hc13, hf⟩ := bd_e hf
    refine cl_z_ro (Wd := (wX6 G ad ado f ++ (wX0 G (ado 1) fnow ++ (wX0 G (ado 2) ftrial)))) (Wc := ([] : va_W)) [] rfl (va_runS (As := [.int x2, .int (nI 0), .int (nI 1)]) (rest := []) hC (c_X6_isWithin l G x2 (nI 0) (nI 1) r13 hc13 _) (va_cwS 3 hts gX6_rich_X6_isWithin rfl rfl rfl (by decide +kernel) ⟨Nat.le_of_ble_eq_true rfl, Nat.le_of_ble_eq_true rfl⟩) ⟨Pc0_blind, fun U hU hW => Pc0_at (Wd := ([] : va_W)) hE (hP.subm [] rfl) (hD.sub [] (by decide) rfl) hU hW⟩ rfl rfl hl.1 rfl (lv_room (Nat.le_of_ble_eq_true rfl)) dX6_rich_13 ⟨Nat.zero_le _, Nat.zero_le _⟩) hS hA hP hD (fun H locs hn13 hP hD hS => ?_)
    refine lv_if_ne (tgt := 21) hx hb dX6_rich_16 (by decide) (fun hc => ?_) (fun hc => ?_)
    · have hf := if_f hf hc
      refine lv_aload_n hx hb dX6_rich_21 rfl (lv_at hl 0 rfl) ?_
      refine va_get (C := RX6) (T := TX6) (N := 11) (ci := 6) (v := .ref ((ado 2) 0)) hx hb hts inX6 hown hT hP 0 rfl rfl 1 (Nat.le_of_ble_eq_true rfl) lk16 (fun _ h => h) rfl dX6_rich_22 ?_
      refine lv_aload_n hx hb dX6_rich_25 rfl (lv_at hl 0 rfl) ?_
      refine va_get (C := RX6) (T := TX6) (N := 11) (ci := 6) (v := .ref ((ado 1) 0)) hx hb hts inX6 hown hT hP 0 rfl rfl 0 (Nat.le_of_ble_eq_true rfl) lk12 (fun _ h => h) rfl dX6_rich_26 ?_
      obtain ⟨ftrial_29, hc29, hf⟩ := bd_e hf
      refine cl_v_up (Wd := (wX6 G ad ado f ++ (wX0 G (ado 1) fnow ++ (wX0 G (ado 2) ftrial)))) (Wc := (wX0 G (ado 2) ftrial ++ (wX0 G (ado 1) fnow))) (W' := (wX0 G (ado 2) ftrial_29 ++ (wX0 G (ado 1) fnow))) (W2 := (wX6 G ad ado f ++ (wX0 G (ado 1) fnow ++ (wX0 G (ado 2) ftrial_29)))) [15, 16, 17, 18, 19, 20, 21, 22, 23, 24, 25, 4, 5, 6, 7, 8, 9, 10, 11, 12, 13, 14] [0, 1, 2, 3] rfl rfl rfl rfl rfl (va_runVN (As := [.ref ((ado 1) 0)]) (rest := []) hC (c_X0_copyFrom l G (ado 2) (ado 1) ftrial fnow ftrial_29 hc29 _) ⟨va_cnB 1 hts gX6_rich_X0_copyFrom_n93 rfl rfl rfl (hE.2.2 (RX6, 93, yX0_copyFrom, "FeatherShares") (List.mem_of_getElem? (i := 8) rfl)) (hts (.initialized RX0) (by decide +kernel)) (by decide +kernel) ⟨Nat.le_of_ble_eq_true rfl, Nat.le_of_ble_eq_true rfl⟩, hts (.instanceMethod yX0_copyFrom) (by decide +kernel), hts (.selects RX0 yX0_copyFrom yX0_copyFrom) (by decide +kernel)⟩ ⟨Pc0_blind, va_recv hT hP (q0 := 15) (ci := 0) rfl rfl, fun U hU hW => Pc0_at (Wd := (wX0 G (ado 2) ftrial ++ (wX0 G (ado 1) fnow))) hE (hP.subm [15, 16, 17, 18, 19, 20, 21, 22, 23, 24, 25, 4, 5, 6, 7, 8, 9, 10, 11, 12, 13, 14] rfl) (hD.sub [15, 16, 17, 18, 19, 20, 21, 22, 23, 24, 25, 4, 5, 6, 7, 8, 9, 10, 11, 12, 13, 14] (by decide) rfl) hU hW⟩ rfl rfl hl.1 rfl (lv_room (Nat.le_of_ble_eq_true rfl)) dX6_rich_29 ⟨Nat.zero_le _, Nat.zero_le _⟩) hS hA hP hD (fun H locs hP hD hS => ?_)
      refine lv_aload_n hx hb dX6_rich_32 rfl (lv_at hl 0 rfl) ?_
      refine va_get (C := RX6) (T := TX6) (N := 11) (ci := 6) (v := .ref ((ado 2) 0)) hx hb hts inX6 hown hT hP 0 rfl rfl 1 (Nat.le_of_ble_eq_true rfl) lk16 (fun _ h => h) rfl dX6_rich_33 ?_
      refine lv_iload_n hx hb dX6_rich_36 rfl (lv_at hl 1 rfl) ?_
      obtain ⟨⟨r37, ftrial_37⟩, hc37, hf⟩ := bd_e hf
      try dsimp only at hf
      refine cl_i_up (Wd := (wX6 G ad ado f ++ (wX0 G (ado 1) fnow ++ (wX0 G (ado 2) ftrial_29)))) (Wc := (wX0 G (ado 2) ftrial_29)) (W' := (wX0 G (ado 2) ftrial_37)) (W2 := (wX6 G ad ado f ++ (wX0 G (ado 1) fnow ++ (wX0 G (ado 2) ftrial_37)))) [15, 16, 17, 18, 19, 20, 21, 22, 23, 24, 25] [0, 1, 2, 3, 4, 5, 6, 7, 8, 9, 10, 11, 12, 13, 14] rfl rfl rfl rfl rfl (va_runVN (As := [.int x1]) (rest := []) hC (c_X0_passWeeks l G (ado 2) ftrial_29 x1 r37 ftrial_37 hc37 _) ⟨va_cnB 1 hts gX6_rich_X0_passWeeks_n194 rfl rfl rfl (hE.2.2 (RX6, 194, yX0_passWeeks, "FeatherShares") (List.mem_of_getElem? (i := 21) rfl)) (hts (.initialized RX0) (by decide +kernel)) (by decide +kernel) ⟨Nat.le_of_ble_eq_true rfl, Nat.le_of_ble_eq_true rfl⟩, hts (.instanceMethod yX0_passWeeks) (by decide +kernel), hts (.selects RX0 yX0_passWeeks yX0_passWeeks) (by decide +kernel)⟩ ⟨Pc0_blind, va_recv hT hP (q0 := 15) (ci := 0) rfl rfl, fun U hU hW => Pc0_at (Wd := (wX0 G (ado 2) ftrial_29)) hE (hP.subm [15, 16, 17, 18, 19, 20, 21, 22, 23, 24, 25] rfl) (hD.sub [15, 16, 17, 18, 19, 20, 21, 22, 23, 24, 25] (by decide) rfl) hU hW⟩ rfl rfl hl.1 rfl (lv_room (Nat.le_of_ble_eq_true rfl)) dX6_rich_37 ⟨Nat.zero_le _, Nat.zero_le _⟩) hS hA hP hD (fun H locs hP hD hS => ?_)
      refine lv_pop hx hb dX6_rich_40 rfl ?_
      refine lv_iconst (v := (nI 0)) hx hb dX6_rich_41 (ic_0) ?_
      refine lv_istore_n (lv' := [(3, .int (nI 0)), (0, .ref (ad 0)), (1, .int x1), (2, .int x2)]) hx hb dX6_rich_42 rfl hl (by decide) rfl (fun ls hl => ?_)
      refine lv_iconst (v := (nI 1)) hx hb dX6_rich_43 (ic_1) ?_
      refine lv_istore (lv' := [(4, .int (nI 1)), (3, .int (nI 0)), (0, .ref (ad 0)), (1, .int x1), (2, .int x2)]) hx hb dX6_rich_44 hl (by decide) rfl (fun ls hl => ?_)
      obtain ⟨y3_46, hlp, hf⟩ := bd_e hf
      refine lp_W1 (p_X6_rich_L46 f fnow ftrial_37 x2) (fun z => match z with | (x3, x4) => ∀ (H : Heap) (locs : List Loc) (ls : Array Slot), va_P G.1 vwCl (wX6 G ad ado f ++ (wX0 G (ado 1) fnow ++ (wX0 G (ado 2) ftrial_37))) H → va_D A (wX6 G ad ado f ++ (wX0 G (ado 1) fnow ++ (wX0 G (ado 2) ftrial_37))) → va_S A s.heap H locs → lv_has ls 5 [(0, .ref (ad 0)), (2, .int x2), (3, .int x3), (4, .int x4)] → W p l e ({ frames := 5, cells := 0, slots := 0, locals := 133 }) s m args below meth c H locs 0 0 Q (F0 m 46 ls [])) (fun (y3_46 : Int32) => ∀ (H : Heap) (locs : List Loc) (ls : Array Slot), va_P G.1 vwCl (wX6 G ad ado f ++ (wX0 G (ado 1) fnow ++ (wX0 G (ado 2) ftrial_37))) H → va_D A (wX6 G ad ado f ++ (wX0 G (ado 1) fnow ++ (wX0 G (ado 2) ftrial_37))) → va_S A s.heap H locs → lv_has ls 5 [(0, .ref (ad 0)), (2, .int x2), (3, .int y3_46)] → W p l e ({ frames := 5, cells := 0, slots := 0, locals := 133 }) s m args below meth c H locs 0 0 Q (F0 m 81 ls [])) ?_ hlp ?_ _ _ _ hP hD hS (lv_sub hl [2, 4, 1, 0] rfl)
      · clear hlp hf hK hP hD hS hl
        generalize ftrial_37 = ftrial
        intro K46 hW46 hX46 
        rintro ⟨x3, x4⟩ res hf hK H locs ls hP hD hS hl
        unfold p_X6_rich_L46 at hf
        dsimp only at hf
        refine lv_iload hx hb dX6_rich_46 (lv_at hl 3 rfl) ?_
        refine lv_iconst (v := (nI 5)) hx hb dX6_rich_48 (ic_5) ?_
        refine lv_icmp_ge (tgt := 81) hx hb dX6_rich_49 (by decide) (fun hc => ?_) (fun hc => ?_)
        · have hf := if_t hf hc
          have hK9 := K_of hf hK
          have hK9 := hX46 _ hK9
          exact hK9 _ _ _ hP hD hS (lv_sub hl [0, 1, 2] rfl)
        · have hf := if_f hf hc
          refine lv_aload_n hx hb dX6_rich_52 rfl (lv_at hl 0 rfl) ?_
          refine va_get (C := RX6) (T := TX6) (N := 11) (ci := 6) (v := .ref ((ado 2) 0)) hx hb hts inX6 hown hT hP 0 rfl rfl 1 (Nat.le_of_ble_eq_true rfl) lk16 (fun _ h => h) rfl dX6_rich_53 ?_
          refine lv_iload hx hb dX6_rich_56 (lv_at hl 3 rfl) ?_
          obtain ⟨r58, hc58, hf⟩ := bd_e hf
          refine cl_i_ro (Wd := (wX6 G ad ado f ++ (wX0 G (ado 1) fnow ++ (wX0 G (ado 2) ftrial)))) (Wc := (wX0 G (ado 2) ftrial)) [15, 16, 17, 18, 19, 20, 21, 22, 23, 24, 25] rfl (va_runVN (As := [.int x4]) (rest := []) hC (c_X0_worth l G (ado 2) ftrial x4 r58 hc58 _) ⟨va_cnB 1 hts gX6_rich_X0_worth_n210 rfl rfl rfl (hE.2.2 (RX6, 210, yX0_worth, "FeatherShares") (List.mem_of_getElem? (i := 26) rfl)) (hts (.initialized RX0) (by decide +kernel)) (by decide +kernel) ⟨Nat.le_of_ble_eq_true rfl, Nat.le_of_ble_eq_true rfl⟩, hts (.instanceMethod yX0_worth) (by decide +kernel), hts (.selects RX0 yX0_worth yX0_worth) (by decide +kernel)⟩ ⟨Pc0_blind, va_recv hT hP (q0 := 15) (ci := 0) rfl rfl, fun U hU hW => Pc0_at (Wd := (wX0 G (ado 2) ftrial)) hE (hP.subm [15, 16, 17, 18, 19, 20, 21, 22, 23, 24, 25] rfl) (hD.sub [15, 16, 17, 18, 19, 20, 21, 22, 23, 24, 25] (by decide) rfl) hU hW⟩ rfl rfl hl.1 rfl (lv_room (Nat.le_of_ble_eq_true rfl)) dX6_rich_58 ⟨Nat.zero_le _, Nat.zero_le _⟩) hS hA hP hD (fun H locs hP hD hS => ?_)
          refine lv_aload_n hx hb dX6_rich_61 rfl (lv_at hl 0 rfl) ?_
          refine va_get (C := RX6) (T := TX6) (N := 11) (ci := 6) (v := .ref ((ado 2) 0)) hx hb hts inX6 hown hT hP 0 rfl rfl 1 (Nat.le_of_ble_eq_true rfl) lk16 (fun _ h => h) rfl dX6_rich_62 ?_
          refine lv_iload_n hx hb dX6_rich_65 rfl (lv_at hl 2 rfl) ?_
          obtain ⟨r66, hc66, hf⟩ := bd_e hf
          refine cl_i_ro (Wd := (wX6 G ad ado f ++ (wX0 G (ado 1) fnow ++ (wX0 G (ado 2) ftrial)))) (Wc := (wX0 G (ado 2) ftrial)) [15, 16, 17, 18, 19, 20, 21, 22, 23, 24, 25] rfl (va_runVN (As := [.int x3]) (rest := [.int r58]) hC (c_X0_worth l G (ado 2) ftrial x3 r66 hc66 _) ⟨va_cnB 1 hts gX6_rich_X0_worth_n210 rfl rfl rfl (hE.2.2 (RX6, 210, yX0_worth, "FeatherShares") (List.mem_of_getElem? (i := 26) rfl)) (hts (.initialized RX0) (by decide +kernel)) (by decide +kernel) ⟨Nat.le_of_ble_eq_true rfl, Nat.le_of_ble_eq_true rfl⟩, hts (.instanceMethod yX0_worth) (by decide +kernel), hts (.selects RX0 yX0_worth yX0_worth) (by decide +kernel)⟩ ⟨Pc0_blind, va_recv hT hP (q0 := 15) (ci := 0) rfl rfl, fun U hU hW => Pc0_at (Wd := (wX0 G (ado 2) ftrial)) hE (hP.subm [15, 16, 17, 18, 19, 20, 21, 22, 23, 24, 25] rfl) (hD.sub [15, 16, 17, 18, 19, 20, 21, 22, 23, 24, 25] (by decide) rfl) hU hW⟩ rfl rfl hl.1 rfl (lv_room (Nat.le_of_ble_eq_true rfl)) dX6_rich_66 ⟨Nat.zero_le _, Nat.zero_le _⟩) hS hA hP hD (fun H locs hP hD hS => ?_)
          refine lv_icmp_le (tgt := 75) hx hb dX6_rich_69 (by decide) (fun hc => ?_) (fun hc => ?_)
          · have hf := if_t hf hc
            refine lv_iinc (v := (x4 + nI 1)) (lv' := [(4, .int (x4 + nI 1)), (0, .ref (ad 0)), (2, .int x2), (3, .int x3)]) hx hb dX6_rich_75 hl (k := 3) rfl (ii_x 1 _) (by decide) rfl (fun ls hl => ?_)
            refine lv_goto (tgt := 46) hx hb dX6_rich_78 (by decide) ?_
            have hK9 := K_of hf hK
            have hK9 := hW46 _ hK9
            exact hK9 _ _ _ hP hD hS (lv_sub hl [1, 2, 3, 0] rfl)
          · have hf := if_f hf hc
            refine lv_iload hx hb dX6_rich_72 (lv_at hl 3 rfl) ?_
            refine lv_istore_n (lv' := [(3, .int x4), (0, .ref (ad 0)), (2, .int x2), (4, .int x4)]) hx hb dX6_rich_74 rfl hl (by decide) rfl (fun ls hl => ?_)
            refine lv_iinc (v := (x4 + nI 1)) (lv' := [(4, .int (x4 + nI 1)), (3, .int x4), (0, .ref (ad 0)), (2, .int x2)]) hx hb dX6_rich_75 hl (k := 3) rfl (ii_x 1 _) (by decide) rfl (fun ls hl => ?_)
            refine lv_goto (tgt := 46) hx hb dX6_rich_78 (by decide) ?_
            have hK9 := K_of hf hK
            have hK9 := hW46 _ hK9
            exact hK9 _ _ _ hP hD hS (lv_sub hl [2, 3, 1, 0] rfl)
      · try dsimp only at hf
        show ∀ (H : Heap) (locs : List Loc) (ls : Array Slot), va_P G.1 vwCl (wX6 G ad ado f ++ (wX0 G (ado 1) fnow ++ (wX0 G (ado 2) ftrial_37))) H → va_D A (wX6 G ad ado f ++ (wX0 G (ado 1) fnow ++ (wX0 G (ado 2) ftrial_37))) → va_S A s.heap H locs → lv_has ls 5 [(0, .ref (ad 0)), (2, .int x2), (3, .int y3_46)] → W p l e ({ frames := 5, cells := 0, slots := 0, locals := 133 }) s m args below meth c H locs 0 0 Q (F0 m 81 ls [])
        intro H locs ls hP hD hS hl
        refine lv_iload_n hx hb dX6_rich_81 rfl (lv_at hl 1 rfl) ?_
        refine lv_if_ne (tgt := 89) hx hb dX6_rich_82 (by decide) (fun hc => ?_) (fun hc => ?_)
        · have hf := if_f hf hc
          refine lv_aload_n hx hb dX6_rich_89 rfl (lv_at hl 0 rfl) ?_
          refine va_get (C := RX6) (T := TX6) (N := 11) (ci := 6) (v := .ref ((ado 2) 0)) hx hb hts inX6 hown hT hP 0 rfl rfl 1 (Nat.le_of_ble_eq_true rfl) lk16 (fun _ h => h) rfl dX6_rich_90 ?_
          refine lv_iload_n hx hb dX6_rich_93 rfl (lv_at hl 2 rfl) ?_
          obtain ⟨r94, hc94, hf⟩ := bd_e hf
          refine cl_i_ro (Wd := (wX6 G ad ado f ++ (wX0 G (ado 1) fnow ++ (wX0 G (ado 2) ftrial_37)))) (Wc := (wX0 G (ado 2) ftrial_37)) [15, 16, 17, 18, 19, 20, 21, 22, 23, 24, 25] rfl (va_runVN (As := [.int y3_46]) (rest := []) hC (c_X0_worth l G (ado 2) ftrial_37 y3_46 r94 hc94 _) ⟨va_cnB 1 hts gX6_rich_X0_worth_n210 rfl rfl rfl (hE.2.2 (RX6, 210, yX0_worth, "FeatherShares") (List.mem_of_getElem? (i := 26) rfl)) (hts (.initialized RX0) (by decide +kernel)) (by decide +kernel) ⟨Nat.le_of_ble_eq_true rfl, Nat.le_of_ble_eq_true rfl⟩, hts (.instanceMethod yX0_worth) (by decide +kernel), hts (.selects RX0 yX0_worth yX0_worth) (by decide +kernel)⟩ ⟨Pc0_blind, va_recv hT hP (q0 := 15) (ci := 0) rfl rfl, fun U hU hW => Pc0_at (Wd := (wX0 G (ado 2) ftrial_37)) hE (hP.subm [15, 16, 17, 18, 19, 20, 21, 22, 23, 24, 25] rfl) (hD.sub [15, 16, 17, 18, 19, 20, 21, 22, 23, 24, 25] (by decide) rfl) hU hW⟩ rfl rfl hl.1 rfl (lv_room (Nat.le_of_ble_eq_true rfl)) dX6_rich_94 ⟨Nat.zero_le _, Nat.zero_le _⟩) hS hA hP hD (fun H locs hP hD hS => ?_)
          have hK9 := K0_of hf hK
          exact hRet r94 ftrial_37 _ _ _ _ hK9 dX6_rich_97 hP hD hS
        · have hf := if_t hf hc
          refine lv_iload_n hx hb dX6_rich_85 rfl (lv_at hl 2 rfl) ?_
          refine lv_goto (tgt := 97) hx hb dX6_rich_86 (by decide) ?_
          have hK9 := K0_of hf hK
          exact hRet y3_46 ftrial_37 _ _ _ _ hK9 dX6_rich_97 hP hD hS
    · have hf := if_t hf hc
      refine lv_iconst (v := (-1 : Int32)) hx hb dX6_rich_19 (ic_m1) ?_
      have hK9 := K0_of hf hK
      exact hRet (-1 : Int32) ftrial _ _ _ _ hK9 dX6_rich_20 hP hD hS
noncomputable def p_X6_turn_L35 (f : Mem) (fnow : Mem) (x1 : Int32) (x2 : Int32) (z : Int32 × Mem) : Option ((Int32 × Mem) ⊕ (Mem ⊕ (Int32 × Mem))) :=
  match z with
  | (x3, ftrial_) =>
    if (nI 60) < x3 then
      (some (Sum.inr (Sum.inl ftrial_)))
    else
      (Option.bind (p_X0_passWeek ftrial_) <| fun (r45, ftrial_45) =>
       Option.bind (p_X0_eggOwner ftrial_45 x1) <| fun r54 =>
       if r54 = x2 then
         (some (Sum.inl ((x3 + nI 1), ftrial_45)))
       else
         (some (Sum.inr (Sum.inr (x3, ftrial_45)))))
noncomputable def p_X6_turn (f : Mem) (fnow : Mem) (ftrial : Mem) (x1 : Int32) : Option (Int32 × Mem) :=
  Option.bind (p_X0_hasGoose fnow x1) <| fun r5 =>
  if r5 = 0 then
    (some ((-1 : Int32), ftrial))
  else
    (Option.bind (p_X0_eggOwner fnow x1) <| fun r18 =>
     Option.bind (p_X0_copyFrom ftrial fnow) <| fun ftrial_30 =>
     Option.bind (lp (p_X6_turn_L35 f fnow x1 r18) ((nI 1), ftrial_30)) <| Sum.elim (fun ftrial_35 =>
       some ((-4 : Int32), ftrial_35)) some)
set_option maxHeartbeats 4000000 in
set_option maxRecDepth 100000 in
theorem c_X6_turn (l : Launch) (G : Gt) (ad : Nat → Nat) (ado : Nat → Nat → Nat) (f : Mem) (fnow : Mem) (ftrial : Mem) (x1 : Int32) (r : Int32) (ftrialz : Mem) (hf : p_X6_turn f fnow ftrial x1 = some (r, ftrialz)) (sz : Nat) : Met l yX6_turn wsX6_turn ({ frames := 4, cells := 0, slots := 0, locals := 110 }) (Pc0 G sz [.ref (ad 0), .int x1] (wX6 G ad ado f ++ (wX0 G (ado 1) fnow ++ (wX0 G (ado 2) ftrial)))) (Qi0 G (va_A (wX6 G ad ado f ++ (wX0 G (ado 1) fnow ++ (wX0 G (ado 2) ftrial))) sz) r (wX6 G ad ado f ++ (wX0 G (ado 1) fnow ++ (wX0 G (ado 2) ftrialz)))) 0 0 (va_A (wX6 G ad ado f ++ (wX0 G (ado 1) fnow ++ (wX0 G (ado 2) ftrial))) sz) := by
  refine metP (Qf := fun A => Qi0 G A r (wX6 G ad ado f ++ (wX0 G (ado 1) fnow ++ (wX0 G (ado 2) ftrialz)))) cX6_turn 4 (some .int) (by decide) rfl (Nat.le_of_ble_eq_true rfl) ?_
  intro p e s m below meth c A ls hC hr hlocks hin hE hA hsz hP hD hS hl
  generalize hargs : ([.ref (ad 0), .int x1] : List Value).toArray = args at hC ⊢
  obtain ⟨hx, hb, hml, hown, hts⟩ := id hC
  have hT : va_K G.1 vwCl (tyL G) s := hE.1
  have hRet : ∀ (r9 : Int32) (ftrial9 : Mem) (H : Heap) (locs : List Loc) (ls : Array Slot) (pc : Nat) (hK9 : (r9, ftrial9) = (r, ftrialz)) (hdg : decode cX6_turn pc = .ok (.ireturn, 1)), va_P G.1 vwCl (wX6 G ad ado f ++ (wX0 G (ado 1) fnow ++ (wX0 G (ado 2) ftrial9))) H → va_D A (wX6 G ad ado f ++ (wX0 G (ado 1) fnow ++ (wX0 G (ado 2) ftrial9))) → va_S A s.heap H locs → W p l e ({ frames := 4, cells := 0, slots := 0, locals := 110 }) s m args below meth c H locs 0 0 (MQ below (Qi0 G A r (wX6 G ad ado f ++ (wX0 G (ado 1) fnow ++ (wX0 G (ado 2) ftrialz)))) args s 0 0 A) (F0 m pc ls [.int r9]) := by
    intro r9 ftrial9 H locs ls pc hK9 hdg hP hD hS
    cases hK9
    exact W.iret hx hb hr (fun t ht hW => ⟨⟨r, (), rfl, rfl, by rw [ht]; exact hP, hD⟩, hS.F ht⟩) hS.2.2 hdg hlocks
  generalize MQ below (Qi0 G A r (wX6 G ad ado f ++ (wX0 G (ado 1) fnow ++ (wX0 G (ado 2) ftrialz)))) args s 0 0 A = Q at hRet ⊢
  have lk12 := hts (.fieldLink RX6 12 "FeatherShares" "now" "LFeatherShares$Flock;") (by decide +kernel)
  have inX6 : ∀ w ∈ u_ws RX6 TX6 11, w ∈ wsX6_turn := by decide +kernel
  have lk16 := hts (.fieldLink RX6 16 "FeatherShares" "trial" "LFeatherShares$Flock;") (by decide +kernel)
  have hl : lv_has ls 4 [(0, .ref (ad 0)), (1, .int x1)] := hl
  have hK0 : (r, ftrialz) = (r, ftrialz) := rfl
  obtain ⟨res, hres, hK⟩ : ∃ res, p_X6_turn f fnow ftrial x1 = some res ∧ res = (r, ftrialz) := ⟨_, hf, rfl⟩
  clear hf
  have hf := hres
  clear hres
  unfold p_X6_turn at hf
  refine lv_aload_n hx hb dX6_turn_0 rfl (lv_at hl 0 rfl) ?_
  refine va_get (C := RX6) (T := TX6) (N := 11) (ci := 6) (v := .ref ((ado 1) 0)) hx hb hts inX6 hown hT hP 0 rfl rfl 0 (Nat.le_of_ble_eq_true rfl) lk12 (fun _ h => h) rfl dX6_turn_1 ?_
  refine lv_iload_n hx hb dX6_turn_4 rfl (lv_at hl 1 rfl) ?_
  obtain ⟨r5, hc5, hf⟩ := bd_e hf
  refine cl_z_ro (Wd := (wX6 G ad ado f ++ (wX0 G (ado 1) fnow ++ (wX0 G (ado 2) ftrial)))) (Wc := (wX0 G (ado 1) fnow)) [4, 5, 6, 7, 8, 9, 10, 11, 12, 13, 14] rfl (va_runVN (As := [.int x1]) (rest := []) hC (c_X0_hasGoose l G (ado 1) fnow x1 r5 hc5 _) ⟨va_cnB 1 hts gX6_turn_X0_hasGoose_n126 rfl rfl rfl (hE.2.2 (RX6, 126, yX0_hasGoose, "FeatherShares") (List.mem_of_getElem? (i := 10) rfl)) (hts (.initialized RX0) (by decide +kernel)) (by decide +kernel) ⟨Nat.le_of_ble_eq_true rfl, Nat.le_of_ble_eq_true rfl⟩, hts (.instanceMethod yX0_hasGoose) (by decide +kernel), hts (.selects RX0 yX0_hasGoose yX0_hasGoose) (by decide +kernel)⟩ ⟨Pc0_blind, va_recv hT hP (q0 := 4) (ci := 0) rfl rfl, fun U hU hW => Pc0_at (Wd := (wX0 G (ado 1) fnow)) hE (hP.subm [4, 5, 6, 7, 8, 9, 10, 11, 12, 13, 14] rfl) (hD.sub [4, 5, 6, 7, 8, 9, 10, 11, 12, 13, 14] (by decide) rfl) hU hW⟩ rfl rfl hl.1 rfl (lv_room (Nat.le_of_ble_eq_true rfl)) dX6_turn_5 ⟨Nat.zero_le _, Nat.zero_le _⟩) hS hA hP hD (fun H locs hn5 hP hD hS => ?_)
  refine lv_if_ne (tgt := 13) hx hb dX6_turn_8 (by decide) (fun hc => ?_) (fun hc => ?_)
  · have hf := if_f hf hc
    refine lv_aload_n hx hb dX6_turn_13 rfl (lv_at hl 0 rfl) ?_
    refine va_get (C := RX6) (T := TX6) (N := 11) (ci := 6) (v := .ref ((ado 1) 0)) hx hb hts inX6 hown hT hP 0 rfl rfl 0 (Nat.le_of_ble_eq_true rfl) lk12 (fun _ h => h) rfl dX6_turn_14 ?_
    refine lv_iload_n hx hb dX6_turn_17 rfl (lv_at hl 1 rfl) ?_
    obtain ⟨r18, hc18, hf⟩ := bd_e hf
    refine cl_i_ro (Wd := (wX6 G ad ado f ++ (wX0 G (ado 1) fnow ++ (wX0 G (ado 2) ftrial)))) (Wc := (wX0 G (ado 1) fnow)) [4, 5, 6, 7, 8, 9, 10, 11, 12, 13, 14] rfl (va_runVN (As := [.int x1]) (rest := []) hC (c_X0_eggOwner l G (ado 1) fnow x1 r18 hc18 _) ⟨va_cnB 1 hts gX6_turn_X0_eggOwner_n142 rfl rfl rfl (hE.2.2 (RX6, 142, yX0_eggOwner, "FeatherShares") (List.mem_of_getElem? (i := 12) rfl)) (hts (.initialized RX0) (by decide +kernel)) (by decide +kernel) ⟨Nat.le_of_ble_eq_true rfl, Nat.le_of_ble_eq_true rfl⟩, hts (.instanceMethod yX0_eggOwner) (by decide +kernel), hts (.selects RX0 yX0_eggOwner yX0_eggOwner) (by decide +kernel)⟩ ⟨Pc0_blind, va_recv hT hP (q0 := 4) (ci := 0) rfl rfl, fun U hU hW => Pc0_at (Wd := (wX0 G (ado 1) fnow)) hE (hP.subm [4, 5, 6, 7, 8, 9, 10, 11, 12, 13, 14] rfl) (hD.sub [4, 5, 6, 7, 8, 9, 10, 11, 12, 13, 14] (by decide) rfl) hU hW⟩ rfl rfl hl.1 rfl (lv_room (Nat.le_of_ble_eq_true rfl)) dX6_turn_18 ⟨Nat.zero_le _, Nat.zero_le _⟩) hS hA hP hD (fun H locs hP hD hS => ?_)
    refine lv_istore_n (lv' := [(2, .int r18), (0, .ref (ad 0)), (1, .int x1)]) hx hb dX6_turn_21 rfl hl (by decide) rfl (fun ls hl => ?_)
    refine lv_aload_n hx hb dX6_turn_22 rfl (lv_at hl 1 rfl) ?_
    refine va_get (C := RX6) (T := TX6) (N := 11) (ci := 6) (v := .ref ((ado 2) 0)) hx hb hts inX6 hown hT hP 0 rfl rfl 1 (Nat.le_of_ble_eq_true rfl) lk16 (fun _ h => h) rfl dX6_turn_23 ?_
    refine lv_aload_n hx hb dX6_turn_26 rfl (lv_at hl 1 rfl) ?_
    refine va_get (C := RX6) (T := TX6) (N := 11) (ci := 6) (v := .ref ((ado 1) 0)) hx hb hts inX6 hown hT hP 0 rfl rfl 0 (Nat.le_of_ble_eq_true rfl) lk12 (fun _ h => h) rfl dX6_turn_27 ?_
    obtain ⟨ftrial_30, hc30, hf⟩ := bd_e hf
    refine cl_v_up (Wd := (wX6 G ad ado f ++ (wX0 G (ado 1) fnow ++ (wX0 G (ado 2) ftrial)))) (Wc := (wX0 G (ado 2) ftrial ++ (wX0 G (ado 1) fnow))) (W' := (wX0 G (ado 2) ftrial_30 ++ (wX0 G (ado 1) fnow))) (W2 := (wX6 G ad ado f ++ (wX0 G (ado 1) fnow ++ (wX0 G (ado 2) ftrial_30)))) [15, 16, 17, 18, 19, 20, 21, 22, 23, 24, 25, 4, 5, 6, 7, 8, 9, 10, 11, 12, 13, 14] [0, 1, 2, 3] rfl rfl rfl rfl rfl (va_runVN (As := [.ref ((ado 1) 0)]) (rest := []) hC (c_X0_copyFrom l G (ado 2) (ado 1) ftrial fnow ftrial_30 hc30 _) ⟨va_cnB 1 hts gX6_turn_X0_copyFrom_n93 rfl rfl rfl (hE.2.2 (RX6, 93, yX0_copyFrom, "FeatherShares") (List.mem_of_getElem? (i := 8) rfl)) (hts (.initialized RX0) (by decide +kernel)) (by decide +kernel) ⟨Nat.le_of_ble_eq_true rfl, Nat.le_of_ble_eq_true rfl⟩, hts (.instanceMethod yX0_copyFrom) (by decide +kernel), hts (.selects RX0 yX0_copyFrom yX0_copyFrom) (by decide +kernel)⟩ ⟨Pc0_blind, va_recv hT hP (q0 := 15) (ci := 0) rfl rfl, fun U hU hW => Pc0_at (Wd := (wX0 G (ado 2) ftrial ++ (wX0 G (ado 1) fnow))) hE (hP.subm [15, 16, 17, 18, 19, 20, 21, 22, 23, 24, 25, 4, 5, 6, 7, 8, 9, 10, 11, 12, 13, 14] rfl) (hD.sub [15, 16, 17, 18, 19, 20, 21, 22, 23, 24, 25, 4, 5, 6, 7, 8, 9, 10, 11, 12, 13, 14] (by decide) rfl) hU hW⟩ rfl rfl hl.1 rfl (lv_room (Nat.le_of_ble_eq_true rfl)) dX6_turn_30 ⟨Nat.zero_le _, Nat.zero_le _⟩) hS hA hP hD (fun H locs hP hD hS => ?_)
    refine lv_iconst (v := (nI 1)) hx hb dX6_turn_33 (ic_1) ?_
    refine lv_istore_n (lv' := [(3, .int (nI 1)), (2, .int r18), (0, .ref (ad 0)), (1, .int x1)]) hx hb dX6_turn_34 rfl hl (by decide) rfl (fun ls hl => ?_)
    obtain ⟨ze, hlp, hf⟩ := bd_e hf
    refine lp_W2 (p_X6_turn_L35 f fnow x1 r18) (fun z => match z with | (x3, ftrial_) => ∀ (H : Heap) (locs : List Loc) (ls : Array Slot), va_P G.1 vwCl (wX6 G ad ado f ++ (wX0 G (ado 1) fnow ++ (wX0 G (ado 2) ftrial_))) H → va_D A (wX6 G ad ado f ++ (wX0 G (ado 1) fnow ++ (wX0 G (ado 2) ftrial_))) → va_S A s.heap H locs → lv_has ls 4 [(0, .ref (ad 0)), (1, .int x1), (2, .int r18), (3, .int x3)] → W p l e ({ frames := 4, cells := 0, slots := 0, locals := 110 }) s m args below meth c H locs 0 0 Q (F0 m 35 ls [])) (fun (ftrial_35 : Mem) => ∀ (H : Heap) (locs : List Loc) (ls : Array Slot), va_P G.1 vwCl (wX6 G ad ado f ++ (wX0 G (ado 1) fnow ++ (wX0 G (ado 2) ftrial_35))) H → va_D A (wX6 G ad ado f ++ (wX0 G (ado 1) fnow ++ (wX0 G (ado 2) ftrial_35))) → va_S A s.heap H locs → lv_has ls 4 [] → W p l e ({ frames := 4, cells := 0, slots := 0, locals := 110 }) s m args below meth c H locs 0 0 Q (F0 m 69 ls [])) (fun z => z = (r, ftrialz)) ?_ hlp ?_ _ _ _ hP hD hS (lv_sub hl [2, 3, 1, 0] rfl)
    · clear hlp hf hK hP hD hS hl
      generalize r18 = x2
      intro K35 hW35 hX35 hO35
      rintro ⟨x3, ftrial_⟩ res hf hK H locs ls hP hD hS hl
      unfold p_X6_turn_L35 at hf
      dsimp only at hf
      refine lv_iload_n hx hb dX6_turn_35 rfl (lv_at hl 3 rfl) ?_
      refine lv_bipush (v := (nI 60)) hx hb dX6_turn_36 (bi_60) ?_
      refine lv_icmp_gt (tgt := 69) hx hb dX6_turn_38 (by decide) (fun hc => ?_) (fun hc => ?_)
      · have hf := if_t hf hc
        have hK9 := K_of hf hK
        have hK9 := hX35 _ hK9
        exact hK9 _ _ _ hP hD hS (lv_sub hl [] rfl)
      · have hf := if_f hf hc
        refine lv_aload_n hx hb dX6_turn_41 rfl (lv_at hl 0 rfl) ?_
        refine va_get (C := RX6) (T := TX6) (N := 11) (ci := 6) (v := .ref ((ado 2) 0)) hx hb hts inX6 hown hT hP 0 rfl rfl 1 (Nat.le_of_ble_eq_true rfl) lk16 (fun _ h => h) rfl dX6_turn_42 ?_
        obtain ⟨⟨r45, ftrial_45⟩, hc45, hf⟩ := bd_e hf
        try dsimp only at hf
        refine cl_i_up (Wd := (wX6 G ad ado f ++ (wX0 G (ado 1) fnow ++ (wX0 G (ado 2) ftrial_)))) (Wc := (wX0 G (ado 2) ftrial_)) (W' := (wX0 G (ado 2) ftrial_45)) (W2 := (wX6 G ad ado f ++ (wX0 G (ado 1) fnow ++ (wX0 G (ado 2) ftrial_45)))) [15, 16, 17, 18, 19, 20, 21, 22, 23, 24, 25] [0, 1, 2, 3, 4, 5, 6, 7, 8, 9, 10, 11, 12, 13, 14] rfl rfl rfl rfl rfl (va_runVN (As := []) (rest := []) hC (c_X0_passWeek l G (ado 2) ftrial_ r45 ftrial_45 hc45 _) ⟨va_cnB 0 hts gX6_turn_X0_passWeek_n207 rfl rfl rfl (hE.2.2 (RX6, 207, yX0_passWeek, "FeatherShares") (List.mem_of_getElem? (i := 25) rfl)) (hts (.initialized RX0) (by decide +kernel)) (by decide +kernel) ⟨Nat.le_of_ble_eq_true rfl, Nat.le_of_ble_eq_true rfl⟩, hts (.instanceMethod yX0_passWeek) (by decide +kernel), hts (.selects RX0 yX0_passWeek yX0_passWeek) (by decide +kernel)⟩ ⟨Pc0_blind, va_recv hT hP (q0 := 15) (ci := 0) rfl rfl, fun U hU hW => Pc0_at (Wd := (wX0 G (ado 2) ftrial_)) hE (hP.subm [15, 16, 17, 18, 19, 20, 21, 22, 23, 24, 25] rfl) (hD.sub [15, 16, 17, 18, 19, 20, 21, 22, 23, 24, 25] (by decide) rfl) hU hW⟩ rfl rfl hl.1 rfl (lv_room (Nat.le_of_ble_eq_true rfl)) dX6_turn_45 ⟨Nat.zero_le _, Nat.zero_le _⟩) hS hA hP hD (fun H locs hP hD hS => ?_)
        refine lv_pop hx hb dX6_turn_48 rfl ?_
        refine lv_aload_n hx hb dX6_turn_49 rfl (lv_at hl 0 rfl) ?_
        refine va_get (C := RX6) (T := TX6) (N := 11) (ci := 6) (v := .ref ((ado 2) 0)) hx hb hts inX6 hown hT hP 0 rfl rfl 1 (Nat.le_of_ble_eq_true rfl) lk16 (fun _ h => h) rfl dX6_turn_50 ?_
        refine lv_iload_n hx hb dX6_turn_53 rfl (lv_at hl 1 rfl) ?_
        obtain ⟨r54, hc54, hf⟩ := bd_e hf
        refine cl_i_ro (Wd := (wX6 G ad ado f ++ (wX0 G (ado 1) fnow ++ (wX0 G (ado 2) ftrial_45)))) (Wc := (wX0 G (ado 2) ftrial_45)) [15, 16, 17, 18, 19, 20, 21, 22, 23, 24, 25] rfl (va_runVN (As := [.int x1]) (rest := []) hC (c_X0_eggOwner l G (ado 2) ftrial_45 x1 r54 hc54 _) ⟨va_cnB 1 hts gX6_turn_X0_eggOwner_n142 rfl rfl rfl (hE.2.2 (RX6, 142, yX0_eggOwner, "FeatherShares") (List.mem_of_getElem? (i := 12) rfl)) (hts (.initialized RX0) (by decide +kernel)) (by decide +kernel) ⟨Nat.le_of_ble_eq_true rfl, Nat.le_of_ble_eq_true rfl⟩, hts (.instanceMethod yX0_eggOwner) (by decide +kernel), hts (.selects RX0 yX0_eggOwner yX0_eggOwner) (by decide +kernel)⟩ ⟨Pc0_blind, va_recv hT hP (q0 := 15) (ci := 0) rfl rfl, fun U hU hW => Pc0_at (Wd := (wX0 G (ado 2) ftrial_45)) hE (hP.subm [15, 16, 17, 18, 19, 20, 21, 22, 23, 24, 25] rfl) (hD.sub [15, 16, 17, 18, 19, 20, 21, 22, 23, 24, 25] (by decide) rfl) hU hW⟩ rfl rfl hl.1 rfl (lv_room (Nat.le_of_ble_eq_true rfl)) dX6_turn_54 ⟨Nat.zero_le _, Nat.zero_le _⟩) hS hA hP hD (fun H locs hP hD hS => ?_)
        refine lv_iload_n hx hb dX6_turn_57 rfl (lv_at hl 2 rfl) ?_
        refine lv_icmp_eq (tgt := 63) hx hb dX6_turn_58 (by decide) (fun hc => ?_) (fun hc => ?_)
        · have hf := if_t hf hc
          refine lv_iinc (v := (x3 + nI 1)) (lv' := [(3, .int (x3 + nI 1)), (0, .ref (ad 0)), (1, .int x1), (2, .int x2)]) hx hb dX6_turn_63 hl (k := 3) rfl (ii_x 1 _) (by decide) rfl (fun ls hl => ?_)
          refine lv_goto (tgt := 35) hx hb dX6_turn_66 (by decide) ?_
          have hK9 := K_of hf hK
          have hK9 := hW35 _ hK9
          exact hK9 _ _ _ hP hD hS (lv_sub hl [1, 2, 3, 0] rfl)
        · have hf := if_f hf hc
          refine lv_iload_n hx hb dX6_turn_61 rfl (lv_at hl 3 rfl) ?_
          have hK9 := K_of hf hK
          have hK9 := hO35 _ hK9
          exact hRet x3 ftrial_45 _ _ _ _ hK9 dX6_turn_62 hP hD hS
    · rcases ze with ftrial_35 | zo
      · try simp only [Sum.elim_inl] at hf
        try dsimp only at hf
        show ∀ (H : Heap) (locs : List Loc) (ls : Array Slot), va_P G.1 vwCl (wX6 G ad ado f ++ (wX0 G (ado 1) fnow ++ (wX0 G (ado 2) ftrial_35))) H → va_D A (wX6 G ad ado f ++ (wX0 G (ado 1) fnow ++ (wX0 G (ado 2) ftrial_35))) → va_S A s.heap H locs → lv_has ls 4 [] → W p l e ({ frames := 4, cells := 0, slots := 0, locals := 110 }) s m args below meth c H locs 0 0 Q (F0 m 69 ls [])
        intro H locs ls hP hD hS hl
        refine lv_bipush (v := (-4 : Int32)) hx hb dX6_turn_69 (bi_m4) ?_
        have hK9 := K0_of hf hK
        exact hRet (-4 : Int32) ftrial_35 _ _ _ _ hK9 dX6_turn_71 hP hD hS
      · have hK9 := K0_of (show some zo = some _ from hf) hK
        exact hK9
  · have hf := if_t hf hc
    refine lv_iconst (v := (-1 : Int32)) hx hb dX6_turn_11 (ic_m1) ?_
    have hK9 := K0_of hf hK
    exact hRet (-1 : Int32) ftrial _ _ _ _ hK9 dX6_turn_12 hP hD hS
noncomputable def p_X6_need_L68 (f : Mem) (fnow : Mem) (x1 : Int32) (x2 : Int32) (x3 : Int32) (x4 : Int32) (z : Int32 × Mem) : Option ((Int32 × Mem) ⊕ (Mem ⊕ ((Int32 × Mem) ⊕ (Mem ⊕ (Int32 × Mem))))) :=
  match z with
  | (x5, ftrial_) =>
    if (nI 5) ≤ x5 then
      (some (Sum.inr (Sum.inl ftrial_)))
    else
      (if x5 = x1 then
         (some (Sum.inl ((x5 + nI 1), ftrial_)))
       else
         (Option.bind (p_X0_canTrade ftrial_ x1 x5 x2 x4) <| fun r90 =>
          if r90 = 0 then
            (some (Sum.inl ((x5 + nI 1), ftrial_)))
          else
            (Option.bind (p_X0_wouldGetEgg ftrial_ x1 x5 x2 x4) <| fun (r106, ftrial_106) =>
             if r106 = 0 then
               (some (Sum.inl ((x5 + nI 1), ftrial_106)))
             else
               (if x3 = 0 then
                  (some (Sum.inr (Sum.inr (Sum.inr (Sum.inr ((((nI 10) * x5) + x4), ftrial_106))))))
                else
                  (gd (inb x2 3) <|
                   some (Sum.inr (Sum.inr (Sum.inr (Sum.inr ((x4 * (fnow 3 x2.toNatClampNeg)), ftrial_106))))))))))
noncomputable def p_X6_need_L58 (f : Mem) (fnow : Mem) (x1 : Int32) (x2 : Int32) (x3 : Int32) (z : Int32 × Mem) : Option ((Int32 × Mem) ⊕ (Mem ⊕ (Int32 × Mem))) :=
  match z with
  | (x4, ftrial_) =>
    if (nI 9) < x4 then
      (some (Sum.inr (Sum.inl ftrial_)))
    else
      (Option.bind (lp (p_X6_need_L68 f fnow x1 x2 x3 x4) ((nI 0), ftrial_)) <| Sum.elim (fun ftrial_68 =>
         some (Sum.inl ((x4 + nI 1), ftrial_68))) some)
noncomputable def p_X6_need (f : Mem) (fnow : Mem) (ftrial : Mem) (x1 : Int32) (x2 : Int32) (x3 : Int32) : Option (Int32 × Mem) :=
  Option.bind (p_X6_isOwner x1) <| fun r1 =>
  if r1 = 0 then
    (some ((-1 : Int32), ftrial))
  else
    (Option.bind (p_X0_hasGoose fnow x2) <| fun r12 =>
     if r12 = 0 then
       (some ((-1 : Int32), ftrial))
     else
       (Option.bind (p_X6_isWithin x3 (nI 0) (nI 1)) <| fun r21 =>
        if r21 = 0 then
          (some ((-1 : Int32), ftrial))
        else
          (Option.bind (p_X0_eggOwner fnow x2) <| fun r34 =>
           if r34 = x1 then
             (some ((-2 : Int32), ftrial))
           else
             (Option.bind (p_X0_copyFrom ftrial fnow) <| fun ftrial_52 =>
              Option.bind (lp (p_X6_need_L58 f fnow x1 x2 x3) ((nI 1), ftrial_52)) <| Sum.elim (fun ftrial_58 =>
                some ((-4 : Int32), ftrial_58)) some))))
set_option maxHeartbeats 4000000 in
set_option maxRecDepth 100000 in
theorem c_X6_need (l : Launch) (G : Gt) (ad : Nat → Nat) (ado : Nat → Nat → Nat) (f : Mem) (fnow : Mem) (ftrial : Mem) (x1 : Int32) (x2 : Int32) (x3 : Int32) (r : Int32) (ftrialz : Mem) (hf : p_X6_need f fnow ftrial x1 x2 x3 = some (r, ftrialz)) (sz : Nat) : Met l yX6_need wsX6_need ({ frames := 4, cells := 0, slots := 0, locals := 83 }) (Pc0 G sz [.ref (ad 0), .int x1, .int x2, .int x3] (wX6 G ad ado f ++ (wX0 G (ado 1) fnow ++ (wX0 G (ado 2) ftrial)))) (Qi0 G (va_A (wX6 G ad ado f ++ (wX0 G (ado 1) fnow ++ (wX0 G (ado 2) ftrial))) sz) r (wX6 G ad ado f ++ (wX0 G (ado 1) fnow ++ (wX0 G (ado 2) ftrialz)))) 0 0 (va_A (wX6 G ad ado f ++ (wX0 G (ado 1) fnow ++ (wX0 G (ado 2) ftrial))) sz) := by
  refine metP (Qf := fun A => Qi0 G A r (wX6 G ad ado f ++ (wX0 G (ado 1) fnow ++ (wX0 G (ado 2) ftrialz)))) cX6_need 6 (some .int) (by decide) rfl (Nat.le_of_ble_eq_true rfl) ?_
  intro p e s m below meth c A ls hC hr hlocks hin hE hA hsz hP hD hS hl
  generalize hargs : ([.ref (ad 0), .int x1, .int x2, .int x3] : List Value).toArray = args at hC ⊢
  obtain ⟨hx, hb, hml, hown, hts⟩ := id hC
  have hT : va_K G.1 vwCl (tyL G) s := hE.1
  have hRet : ∀ (r9 : Int32) (ftrial9 : Mem) (H : Heap) (locs : List Loc) (ls : Array Slot) (pc : Nat) (hK9 : (r9, ftrial9) = (r, ftrialz)) (hdg : decode cX6_need pc = .ok (.ireturn, 1)), va_P G.1 vwCl (wX6 G ad ado f ++ (wX0 G (ado 1) fnow ++ (wX0 G (ado 2) ftrial9))) H → va_D A (wX6 G ad ado f ++ (wX0 G (ado 1) fnow ++ (wX0 G (ado 2) ftrial9))) → va_S A s.heap H locs → W p l e ({ frames := 4, cells := 0, slots := 0, locals := 83 }) s m args below meth c H locs 0 0 (MQ below (Qi0 G A r (wX6 G ad ado f ++ (wX0 G (ado 1) fnow ++ (wX0 G (ado 2) ftrialz)))) args s 0 0 A) (F0 m pc ls [.int r9]) := by
    intro r9 ftrial9 H locs ls pc hK9 hdg hP hD hS
    cases hK9
    exact W.iret hx hb hr (fun t ht hW => ⟨⟨r, (), rfl, rfl, by rw [ht]; exact hP, hD⟩, hS.F ht⟩) hS.2.2 hdg hlocks
  generalize MQ below (Qi0 G A r (wX6 G ad ado f ++ (wX0 G (ado 1) fnow ++ (wX0 G (ado 2) ftrialz)))) args s 0 0 A = Q at hRet ⊢
  have lk12 := hts (.fieldLink RX6 12 "FeatherShares" "now" "LFeatherShares$Flock;") (by decide +kernel)
  have inX6 : ∀ w ∈ u_ws RX6 TX6 11, w ∈ wsX6_need := by decide +kernel
  have lk16 := hts (.fieldLink RX6 16 "FeatherShares" "trial" "LFeatherShares$Flock;") (by decide +kernel)
  have lk135 := va_Nw.use (A := args) rfl (hE.2.1 (RX6, 135, "FeatherShares$Flock", "price", "[I", "FeatherShares") (List.mem_of_getElem? (i := 13) rfl))
  have inX0 : ∀ w ∈ u_ws RX0 TX0 13, w ∈ wsX6_need := by decide +kernel
  have hl : lv_has ls 6 [(0, .ref (ad 0)), (1, .int x1), (2, .int x2), (3, .int x3)] := hl
  have hK0 : (r, ftrialz) = (r, ftrialz) := rfl
  obtain ⟨res, hres, hK⟩ : ∃ res, p_X6_need f fnow ftrial x1 x2 x3 = some res ∧ res = (r, ftrialz) := ⟨_, hf, rfl⟩
  clear hf
  have hf := hres
  clear hres
  unfold p_X6_need at hf
  refine lv_iload_n hx hb dX6_need_0 rfl (lv_at hl 1 rfl) ?_
  obtain ⟨r1, hc1, hf⟩ := bd_e hf
  refine cl_z_ro (Wd := (wX6 G ad ado f ++ (wX0 G (ado 1) fnow ++ (wX0 G (ado 2) ftrial)))) (Wc := ([] : va_W)) [] rfl (va_runS (As := [.int x1]) (rest := []) hC (c_X6_isOwner l G x1 r1 hc1 _) (va_cwS 1 hts gX6_need_X6_isOwner rfl rfl rfl (by decide +kernel) ⟨Nat.le_of_ble_eq_true rfl, Nat.le_of_ble_eq_true rfl⟩) ⟨Pc0_blind, fun U hU hW => Pc0_at (Wd := ([] : va_W)) hE (hP.subm [] rfl) (hD.sub [] (by decide) rfl) hU hW⟩ rfl rfl hl.1 rfl (lv_room (Nat.le_of_ble_eq_true rfl)) dX6_need_1 ⟨Nat.zero_le _, Nat.zero_le _⟩) hS hA hP hD (fun H locs hn1 hP hD hS => ?_)
  refine lv_if_eq (tgt := 27) hx hb dX6_need_4 (by decide) (fun hc => ?_) (fun hc => ?_)
  · have hf := if_t hf hc
    refine lv_iconst (v := (-1 : Int32)) hx hb dX6_need_27 (ic_m1) ?_
    have hK9 := K0_of hf hK
    exact hRet (-1 : Int32) ftrial _ _ _ _ hK9 dX6_need_28 hP hD hS
  · have hf := if_f hf hc
    refine lv_aload_n hx hb dX6_need_7 rfl (lv_at hl 0 rfl) ?_
    refine va_get (C := RX6) (T := TX6) (N := 11) (ci := 6) (v := .ref ((ado 1) 0)) hx hb hts inX6 hown hT hP 0 rfl rfl 0 (Nat.le_of_ble_eq_true rfl) lk12 (fun _ h => h) rfl dX6_need_8 ?_
    refine lv_iload_n hx hb dX6_need_11 rfl (lv_at hl 2 rfl) ?_
    obtain ⟨r12, hc12, hf⟩ := bd_e hf
    refine cl_z_ro (Wd := (wX6 G ad ado f ++ (wX0 G (ado 1) fnow ++ (wX0 G (ado 2) ftrial)))) (Wc := (wX0 G (ado 1) fnow)) [4, 5, 6, 7, 8, 9, 10, 11, 12, 13, 14] rfl (va_runVN (As := [.int x2]) (rest := []) hC (c_X0_hasGoose l G (ado 1) fnow x2 r12 hc12 _) ⟨va_cnB 1 hts gX6_need_X0_hasGoose_n126 rfl rfl rfl (hE.2.2 (RX6, 126, yX0_hasGoose, "FeatherShares") (List.mem_of_getElem? (i := 10) rfl)) (hts (.initialized RX0) (by decide +kernel)) (by decide +kernel) ⟨Nat.le_of_ble_eq_true rfl, Nat.le_of_ble_eq_true rfl⟩, hts (.instanceMethod yX0_hasGoose) (by decide +kernel), hts (.selects RX0 yX0_hasGoose yX0_hasGoose) (by decide +kernel)⟩ ⟨Pc0_blind, va_recv hT hP (q0 := 4) (ci := 0) rfl rfl, fun U hU hW => Pc0_at (Wd := (wX0 G (ado 1) fnow)) hE (hP.subm [4, 5, 6, 7, 8, 9, 10, 11, 12, 13, 14] rfl) (hD.sub [4, 5, 6, 7, 8, 9, 10, 11, 12, 13, 14] (by decide) rfl) hU hW⟩ rfl rfl hl.1 rfl (lv_room (Nat.le_of_ble_eq_true rfl)) dX6_need_12 ⟨Nat.zero_le _, Nat.zero_le _⟩) hS hA hP hD (fun H locs hn12 hP hD hS => ?_)
    refine lv_if_eq (tgt := 27) hx hb dX6_need_15 (by decide) (fun hc => ?_) (fun hc => ?_)
    · have hf := if_t hf hc
      refine lv_iconst (v := (-1 : Int32)) hx hb dX6_need_27 (ic_m1) ?_
      have hK9 := K0_of hf hK
      exact hRet (-1 : Int32) ftrial _ _ _ _ hK9 dX6_need_28 hP hD hS
    · have hf := if_f hf hc
      refine lv_iload_n hx hb dX6_need_18 rfl (lv_at hl 3 rfl) ?_
      refine lv_iconst (v := (nI 0)) hx hb dX6_need_19 (ic_0) ?_
      refine lv_iconst (v := (nI 1)) hx hb dX6_need_20 (ic_1) ?_
      obtain ⟨r21, hc21, hf⟩ := bd_e hf
      refine cl_z_ro (Wd := (wX6 G ad ado f ++ (wX0 G (ado 1) fnow ++ (wX0 G (ado 2) ftrial)))) (Wc := ([] : va_W)) [] rfl (va_runS (As := [.int x3, .int (nI 0), .int (nI 1)]) (rest := []) hC (c_X6_isWithin l G x3 (nI 0) (nI 1) r21 hc21 _) (va_cwS 3 hts gX6_need_X6_isWithin rfl rfl rfl (by decide +kernel) ⟨Nat.le_of_ble_eq_true rfl, Nat.le_of_ble_eq_true rfl⟩) ⟨Pc0_blind, fun U hU hW => Pc0_at (Wd := ([] : va_W)) hE (hP.subm [] rfl) (hD.sub [] (by decide) rfl) hU hW⟩ rfl rfl hl.1 rfl (lv_room (Nat.le_of_ble_eq_true rfl)) dX6_need_21 ⟨Nat.zero_le _, Nat.zero_le _⟩) hS hA hP hD (fun H locs hn21 hP hD hS => ?_)
      refine lv_if_ne (tgt := 29) hx hb dX6_need_24 (by decide) (fun hc => ?_) (fun hc => ?_)
      · have hf := if_f hf hc
        refine lv_aload_n hx hb dX6_need_29 rfl (lv_at hl 0 rfl) ?_
        refine va_get (C := RX6) (T := TX6) (N := 11) (ci := 6) (v := .ref ((ado 1) 0)) hx hb hts inX6 hown hT hP 0 rfl rfl 0 (Nat.le_of_ble_eq_true rfl) lk12 (fun _ h => h) rfl dX6_need_30 ?_
        refine lv_iload_n hx hb dX6_need_33 rfl (lv_at hl 2 rfl) ?_
        obtain ⟨r34, hc34, hf⟩ := bd_e hf
        refine cl_i_ro (Wd := (wX6 G ad ado f ++ (wX0 G (ado 1) fnow ++ (wX0 G (ado 2) ftrial)))) (Wc := (wX0 G (ado 1) fnow)) [4, 5, 6, 7, 8, 9, 10, 11, 12, 13, 14] rfl (va_runVN (As := [.int x2]) (rest := []) hC (c_X0_eggOwner l G (ado 1) fnow x2 r34 hc34 _) ⟨va_cnB 1 hts gX6_need_X0_eggOwner_n142 rfl rfl rfl (hE.2.2 (RX6, 142, yX0_eggOwner, "FeatherShares") (List.mem_of_getElem? (i := 12) rfl)) (hts (.initialized RX0) (by decide +kernel)) (by decide +kernel) ⟨Nat.le_of_ble_eq_true rfl, Nat.le_of_ble_eq_true rfl⟩, hts (.instanceMethod yX0_eggOwner) (by decide +kernel), hts (.selects RX0 yX0_eggOwner yX0_eggOwner) (by decide +kernel)⟩ ⟨Pc0_blind, va_recv hT hP (q0 := 4) (ci := 0) rfl rfl, fun U hU hW => Pc0_at (Wd := (wX0 G (ado 1) fnow)) hE (hP.subm [4, 5, 6, 7, 8, 9, 10, 11, 12, 13, 14] rfl) (hD.sub [4, 5, 6, 7, 8, 9, 10, 11, 12, 13, 14] (by decide) rfl) hU hW⟩ rfl rfl hl.1 rfl (lv_room (Nat.le_of_ble_eq_true rfl)) dX6_need_34 ⟨Nat.zero_le _, Nat.zero_le _⟩) hS hA hP hD (fun H locs hP hD hS => ?_)
        refine lv_iload_n hx hb dX6_need_37 rfl (lv_at hl 1 rfl) ?_
        refine lv_icmp_ne (tgt := 44) hx hb dX6_need_38 (by decide) (fun hc => ?_) (fun hc => ?_)
        · have hf := if_f hf hc
          refine lv_aload_n hx hb dX6_need_44 rfl (lv_at hl 0 rfl) ?_
          refine va_get (C := RX6) (T := TX6) (N := 11) (ci := 6) (v := .ref ((ado 2) 0)) hx hb hts inX6 hown hT hP 0 rfl rfl 1 (Nat.le_of_ble_eq_true rfl) lk16 (fun _ h => h) rfl dX6_need_45 ?_
          refine lv_aload_n hx hb dX6_need_48 rfl (lv_at hl 0 rfl) ?_
          refine va_get (C := RX6) (T := TX6) (N := 11) (ci := 6) (v := .ref ((ado 1) 0)) hx hb hts inX6 hown hT hP 0 rfl rfl 0 (Nat.le_of_ble_eq_true rfl) lk12 (fun _ h => h) rfl dX6_need_49 ?_
          obtain ⟨ftrial_52, hc52, hf⟩ := bd_e hf
          refine cl_v_up (Wd := (wX6 G ad ado f ++ (wX0 G (ado 1) fnow ++ (wX0 G (ado 2) ftrial)))) (Wc := (wX0 G (ado 2) ftrial ++ (wX0 G (ado 1) fnow))) (W' := (wX0 G (ado 2) ftrial_52 ++ (wX0 G (ado 1) fnow))) (W2 := (wX6 G ad ado f ++ (wX0 G (ado 1) fnow ++ (wX0 G (ado 2) ftrial_52)))) [15, 16, 17, 18, 19, 20, 21, 22, 23, 24, 25, 4, 5, 6, 7, 8, 9, 10, 11, 12, 13, 14] [0, 1, 2, 3] rfl rfl rfl rfl rfl (va_runVN (As := [.ref ((ado 1) 0)]) (rest := []) hC (c_X0_copyFrom l G (ado 2) (ado 1) ftrial fnow ftrial_52 hc52 _) ⟨va_cnB 1 hts gX6_need_X0_copyFrom_n93 rfl rfl rfl (hE.2.2 (RX6, 93, yX0_copyFrom, "FeatherShares") (List.mem_of_getElem? (i := 8) rfl)) (hts (.initialized RX0) (by decide +kernel)) (by decide +kernel) ⟨Nat.le_of_ble_eq_true rfl, Nat.le_of_ble_eq_true rfl⟩, hts (.instanceMethod yX0_copyFrom) (by decide +kernel), hts (.selects RX0 yX0_copyFrom yX0_copyFrom) (by decide +kernel)⟩ ⟨Pc0_blind, va_recv hT hP (q0 := 15) (ci := 0) rfl rfl, fun U hU hW => Pc0_at (Wd := (wX0 G (ado 2) ftrial ++ (wX0 G (ado 1) fnow))) hE (hP.subm [15, 16, 17, 18, 19, 20, 21, 22, 23, 24, 25, 4, 5, 6, 7, 8, 9, 10, 11, 12, 13, 14] rfl) (hD.sub [15, 16, 17, 18, 19, 20, 21, 22, 23, 24, 25, 4, 5, 6, 7, 8, 9, 10, 11, 12, 13, 14] (by decide) rfl) hU hW⟩ rfl rfl hl.1 rfl (lv_room (Nat.le_of_ble_eq_true rfl)) dX6_need_52 ⟨Nat.zero_le _, Nat.zero_le _⟩) hS hA hP hD (fun H locs hP hD hS => ?_)
          refine lv_iconst (v := (nI 1)) hx hb dX6_need_55 (ic_1) ?_
          refine lv_istore (lv' := [(4, .int (nI 1)), (0, .ref (ad 0)), (1, .int x1), (2, .int x2), (3, .int x3)]) hx hb dX6_need_56 hl (by decide) rfl (fun ls hl => ?_)
          obtain ⟨ze, hlp, hf⟩ := bd_e hf
          refine lp_W2 (p_X6_need_L58 f fnow x1 x2 x3) (fun z => match z with | (x4, ftrial_) => ∀ (H : Heap) (locs : List Loc) (ls : Array Slot), va_P G.1 vwCl (wX6 G ad ado f ++ (wX0 G (ado 1) fnow ++ (wX0 G (ado 2) ftrial_))) H → va_D A (wX6 G ad ado f ++ (wX0 G (ado 1) fnow ++ (wX0 G (ado 2) ftrial_))) → va_S A s.heap H locs → lv_has ls 6 [(0, .ref (ad 0)), (1, .int x1), (2, .int x2), (3, .int x3), (4, .int x4)] → W p l e ({ frames := 4, cells := 0, slots := 0, locals := 83 }) s m args below meth c H locs 0 0 Q (F0 m 58 ls [])) (fun (ftrial_58 : Mem) => ∀ (H : Heap) (locs : List Loc) (ls : Array Slot), va_P G.1 vwCl (wX6 G ad ado f ++ (wX0 G (ado 1) fnow ++ (wX0 G (ado 2) ftrial_58))) H → va_D A (wX6 G ad ado f ++ (wX0 G (ado 1) fnow ++ (wX0 G (ado 2) ftrial_58))) → va_S A s.heap H locs → lv_has ls 6 [] → W p l e ({ frames := 4, cells := 0, slots := 0, locals := 83 }) s m args below meth c H locs 0 0 Q (F0 m 152 ls [])) (fun z => z = (r, ftrialz)) ?_ hlp ?_ _ _ _ hP hD hS (lv_sub hl [1, 2, 3, 4, 0] rfl)
          · clear hlp hf hK hP hD hS hl
            intro K58 hW58 hX58 hO58
            rintro ⟨x4, ftrial_⟩ res hf hK H locs ls hP hD hS hl
            unfold p_X6_need_L58 at hf
            dsimp only at hf
            refine lv_iload hx hb dX6_need_58 (lv_at hl 4 rfl) ?_
            refine lv_bipush (v := (nI 9)) hx hb dX6_need_60 (bi_9) ?_
            refine lv_icmp_gt (tgt := 152) hx hb dX6_need_62 (by decide) (fun hc => ?_) (fun hc => ?_)
            · have hf := if_t hf hc
              have hK9 := K_of hf hK
              have hK9 := hX58 _ hK9
              exact hK9 _ _ _ hP hD hS (lv_sub hl [] rfl)
            · have hf := if_f hf hc
              refine lv_iconst (v := (nI 0)) hx hb dX6_need_65 (ic_0) ?_
              refine lv_istore (lv' := [(5, .int (nI 0)), (0, .ref (ad 0)), (1, .int x1), (2, .int x2), (3, .int x3), (4, .int x4)]) hx hb dX6_need_66 hl (by decide) rfl (fun ls hl => ?_)
              obtain ⟨ze, hlp, hf⟩ := bd_e hf
              refine lp_W2 (p_X6_need_L68 f fnow x1 x2 x3 x4) (fun z => match z with | (x5, ftrial_) => ∀ (H : Heap) (locs : List Loc) (ls : Array Slot), va_P G.1 vwCl (wX6 G ad ado f ++ (wX0 G (ado 1) fnow ++ (wX0 G (ado 2) ftrial_))) H → va_D A (wX6 G ad ado f ++ (wX0 G (ado 1) fnow ++ (wX0 G (ado 2) ftrial_))) → va_S A s.heap H locs → lv_has ls 6 [(0, .ref (ad 0)), (1, .int x1), (2, .int x2), (3, .int x3), (4, .int x4), (5, .int x5)] → W p l e ({ frames := 4, cells := 0, slots := 0, locals := 83 }) s m args below meth c H locs 0 0 Q (F0 m 68 ls [])) (fun (ftrial_68 : Mem) => ∀ (H : Heap) (locs : List Loc) (ls : Array Slot), va_P G.1 vwCl (wX6 G ad ado f ++ (wX0 G (ado 1) fnow ++ (wX0 G (ado 2) ftrial_68))) H → va_D A (wX6 G ad ado f ++ (wX0 G (ado 1) fnow ++ (wX0 G (ado 2) ftrial_68))) → va_S A s.heap H locs → lv_has ls 6 [(0, .ref (ad 0)), (1, .int x1), (2, .int x2), (3, .int x3), (4, .int x4)] → W p l e ({ frames := 4, cells := 0, slots := 0, locals := 83 }) s m args below meth c H locs 0 0 Q (F0 m 146 ls [])) (K58) ?_ hlp ?_ _ _ _ hP hD hS (lv_sub hl [1, 2, 3, 4, 5, 0] rfl)
              · clear hlp hf hK hP hD hS hl
                intro K68 hW68 hX68 hO68
                rintro ⟨x5, ftrial_⟩ res hf hK H locs ls hP hD hS hl
                unfold p_X6_need_L68 at hf
                dsimp only at hf
                refine lv_iload hx hb dX6_need_68 (lv_at hl 5 rfl) ?_
                refine lv_iconst (v := (nI 5)) hx hb dX6_need_70 (ic_5) ?_
                refine lv_icmp_ge (tgt := 146) hx hb dX6_need_71 (by decide) (fun hc => ?_) (fun hc => ?_)
                · have hf := if_t hf hc
                  have hK9 := K_of hf hK
                  have hK9 := hX68 _ hK9
                  exact hK9 _ _ _ hP hD hS (lv_sub hl [0, 1, 2, 3, 4] rfl)
                · have hf := if_f hf hc
                  refine lv_iload hx hb dX6_need_74 (lv_at hl 5 rfl) ?_
                  refine lv_iload_n hx hb dX6_need_76 rfl (lv_at hl 1 rfl) ?_
                  refine lv_icmp_eq (tgt := 140) hx hb dX6_need_77 (by decide) (fun hc => ?_) (fun hc => ?_)
                  · have hf := if_t hf hc
                    refine lv_iinc (v := (x5 + nI 1)) (lv' := [(5, .int (x5 + nI 1)), (0, .ref (ad 0)), (1, .int x1), (2, .int x2), (3, .int x3), (4, .int x4)]) hx hb dX6_need_140 hl (k := 5) rfl (ii_x 1 _) (by decide) rfl (fun ls hl => ?_)
                    refine lv_goto (tgt := 68) hx hb dX6_need_143 (by decide) ?_
                    have hK9 := K_of hf hK
                    have hK9 := hW68 _ hK9
                    exact hK9 _ _ _ hP hD hS (lv_sub hl [1, 2, 3, 4, 5, 0] rfl)
                  · have hf := if_f hf hc
                    refine lv_aload_n hx hb dX6_need_80 rfl (lv_at hl 0 rfl) ?_
                    refine va_get (C := RX6) (T := TX6) (N := 11) (ci := 6) (v := .ref ((ado 2) 0)) hx hb hts inX6 hown hT hP 0 rfl rfl 1 (Nat.le_of_ble_eq_true rfl) lk16 (fun _ h => h) rfl dX6_need_81 ?_
                    refine lv_iload_n hx hb dX6_need_84 rfl (lv_at hl 1 rfl) ?_
                    refine lv_iload hx hb dX6_need_85 (lv_at hl 5 rfl) ?_
                    refine lv_iload_n hx hb dX6_need_87 rfl (lv_at hl 2 rfl) ?_
                    refine lv_iload hx hb dX6_need_88 (lv_at hl 4 rfl) ?_
                    obtain ⟨r90, hc90, hf⟩ := bd_e hf
                    refine cl_z_ro (Wd := (wX6 G ad ado f ++ (wX0 G (ado 1) fnow ++ (wX0 G (ado 2) ftrial_)))) (Wc := (wX0 G (ado 2) ftrial_)) [15, 16, 17, 18, 19, 20, 21, 22, 23, 24, 25] rfl (va_runVN (As := [.int x1, .int x5, .int x2, .int x4]) (rest := []) hC (c_X0_canTrade l G (ado 2) ftrial_ x1 x5 x2 x4 r90 hc90 _) ⟨va_cnB 4 hts gX6_need_X0_canTrade_n181 rfl rfl rfl (hE.2.2 (RX6, 181, yX0_canTrade, "FeatherShares") (List.mem_of_getElem? (i := 17) rfl)) (hts (.initialized RX0) (by decide +kernel)) (by decide +kernel) ⟨Nat.le_of_ble_eq_true rfl, Nat.le_of_ble_eq_true rfl⟩, hts (.instanceMethod yX0_canTrade) (by decide +kernel), hts (.selects RX0 yX0_canTrade yX0_canTrade) (by decide +kernel)⟩ ⟨Pc0_blind, va_recv hT hP (q0 := 15) (ci := 0) rfl rfl, fun U hU hW => Pc0_at (Wd := (wX0 G (ado 2) ftrial_)) hE (hP.subm [15, 16, 17, 18, 19, 20, 21, 22, 23, 24, 25] rfl) (hD.sub [15, 16, 17, 18, 19, 20, 21, 22, 23, 24, 25] (by decide) rfl) hU hW⟩ rfl rfl hl.1 rfl (lv_room (Nat.le_of_ble_eq_true rfl)) dX6_need_90 ⟨Nat.zero_le _, Nat.zero_le _⟩) hS hA hP hD (fun H locs hn90 hP hD hS => ?_)
                    refine lv_if_eq (tgt := 140) hx hb dX6_need_93 (by decide) (fun hc => ?_) (fun hc => ?_)
                    · have hf := if_t hf hc
                      refine lv_iinc (v := (x5 + nI 1)) (lv' := [(5, .int (x5 + nI 1)), (0, .ref (ad 0)), (1, .int x1), (2, .int x2), (3, .int x3), (4, .int x4)]) hx hb dX6_need_140 hl (k := 5) rfl (ii_x 1 _) (by decide) rfl (fun ls hl => ?_)
                      refine lv_goto (tgt := 68) hx hb dX6_need_143 (by decide) ?_
                      have hK9 := K_of hf hK
                      have hK9 := hW68 _ hK9
                      exact hK9 _ _ _ hP hD hS (lv_sub hl [1, 2, 3, 4, 5, 0] rfl)
                    · have hf := if_f hf hc
                      refine lv_aload_n hx hb dX6_need_96 rfl (lv_at hl 0 rfl) ?_
                      refine va_get (C := RX6) (T := TX6) (N := 11) (ci := 6) (v := .ref ((ado 2) 0)) hx hb hts inX6 hown hT hP 0 rfl rfl 1 (Nat.le_of_ble_eq_true rfl) lk16 (fun _ h => h) rfl dX6_need_97 ?_
                      refine lv_iload_n hx hb dX6_need_100 rfl (lv_at hl 1 rfl) ?_
                      refine lv_iload hx hb dX6_need_101 (lv_at hl 5 rfl) ?_
                      refine lv_iload_n hx hb dX6_need_103 rfl (lv_at hl 2 rfl) ?_
                      refine lv_iload hx hb dX6_need_104 (lv_at hl 4 rfl) ?_
                      obtain ⟨⟨r106, ftrial_106⟩, hc106, hf⟩ := bd_e hf
                      try dsimp only at hf
                      refine cl_z_up (Wd := (wX6 G ad ado f ++ (wX0 G (ado 1) fnow ++ (wX0 G (ado 2) ftrial_)))) (Wc := (wX0 G (ado 2) ftrial_)) (W' := (wX0 G (ado 2) ftrial_106)) (W2 := (wX6 G ad ado f ++ (wX0 G (ado 1) fnow ++ (wX0 G (ado 2) ftrial_106)))) [15, 16, 17, 18, 19, 20, 21, 22, 23, 24, 25] [0, 1, 2, 3, 4, 5, 6, 7, 8, 9, 10, 11, 12, 13, 14] rfl rfl rfl rfl rfl (va_runVN (As := [.int x1, .int x5, .int x2, .int x4]) (rest := []) hC (c_X0_wouldGetEgg l G (ado 2) ftrial_ x1 x5 x2 x4 r106 ftrial_106 hc106 _) ⟨va_cnB 4 hts gX6_need_X0_wouldGetEgg_n213 rfl rfl rfl (hE.2.2 (RX6, 213, yX0_wouldGetEgg, "FeatherShares") (List.mem_of_getElem? (i := 27) rfl)) (hts (.initialized RX0) (by decide +kernel)) (by decide +kernel) ⟨Nat.le_of_ble_eq_true rfl, Nat.le_of_ble_eq_true rfl⟩, hts (.instanceMethod yX0_wouldGetEgg) (by decide +kernel), hts (.selects RX0 yX0_wouldGetEgg yX0_wouldGetEgg) (by decide +kernel)⟩ ⟨Pc0_blind, va_recv hT hP (q0 := 15) (ci := 0) rfl rfl, fun U hU hW => Pc0_at (Wd := (wX0 G (ado 2) ftrial_)) hE (hP.subm [15, 16, 17, 18, 19, 20, 21, 22, 23, 24, 25] rfl) (hD.sub [15, 16, 17, 18, 19, 20, 21, 22, 23, 24, 25] (by decide) rfl) hU hW⟩ rfl rfl hl.1 rfl (lv_room (Nat.le_of_ble_eq_true rfl)) dX6_need_106 ⟨Nat.zero_le _, Nat.zero_le _⟩) hS hA hP hD (fun H locs hn106 hP hD hS => ?_)
                      refine lv_if_eq (tgt := 140) hx hb dX6_need_109 (by decide) (fun hc => ?_) (fun hc => ?_)
                      · have hf := if_t hf hc
                        refine lv_iinc (v := (x5 + nI 1)) (lv' := [(5, .int (x5 + nI 1)), (0, .ref (ad 0)), (1, .int x1), (2, .int x2), (3, .int x3), (4, .int x4)]) hx hb dX6_need_140 hl (k := 5) rfl (ii_x 1 _) (by decide) rfl (fun ls hl => ?_)
                        refine lv_goto (tgt := 68) hx hb dX6_need_143 (by decide) ?_
                        have hK9 := K_of hf hK
                        have hK9 := hW68 _ hK9
                        exact hK9 _ _ _ hP hD hS (lv_sub hl [1, 2, 3, 4, 5, 0] rfl)
                      · have hf := if_f hf hc
                        refine lv_iload_n hx hb dX6_need_112 rfl (lv_at hl 3 rfl) ?_
                        refine lv_if_ne (tgt := 127) hx hb dX6_need_113 (by decide) (fun hc => ?_) (fun hc => ?_)
                        · have hf := if_f hf hc
                          refine lv_iload hx hb dX6_need_127 (lv_at hl 4 rfl) ?_
                          refine lv_aload_n hx hb dX6_need_129 rfl (lv_at hl 0 rfl) ?_
                          refine va_get (C := RX6) (T := TX6) (N := 11) (ci := 6) (v := .ref ((ado 1) 0)) hx hb hts inX6 hown hT hP 0 rfl rfl 0 (Nat.le_of_ble_eq_true rfl) lk12 (fun _ h => h) rfl dX6_need_130 ?_
                          refine va_getN (C := RX0) (T := TX0) (N := 13) (ci := 0) (v := .ref ((ado 1) 3)) hx hb hts inX0 hown hT hP 4 rfl rfl 5 (Nat.le_of_ble_eq_true rfl) lk135 (fun _ h => h) rfl dX6_need_133 ?_
                          refine lv_iload_n hx hb dX6_need_136 rfl (lv_at hl 2 rfl) ?_
                          obtain ⟨hg, hf⟩ := gd_e hf
                          refine va_iald (f := fnow 3) hx hb hT hP 7 0 rfl rfl (inb_e hg) dX6_need_137 ?_
                          refine lv_imul hx hb dX6_need_138 ?_
                          have hK9 := K_of hf hK
                          have hK9 := hO68 _ hK9
                          have hK9 := hO58 _ hK9
                          exact hRet (x4 * (fnow 3 x2.toNatClampNeg)) ftrial_106 _ _ _ _ hK9 dX6_need_139 hP hD hS
                        · have hf := if_t hf hc
                          refine lv_bipush (v := (nI 10)) hx hb dX6_need_116 (bi_10) ?_
                          refine lv_iload hx hb dX6_need_118 (lv_at hl 5 rfl) ?_
                          refine lv_imul hx hb dX6_need_120 ?_
                          refine lv_iload hx hb dX6_need_121 (lv_at hl 4 rfl) ?_
                          refine lv_iadd hx hb dX6_need_123 ?_
                          refine lv_goto (tgt := 139) hx hb dX6_need_124 (by decide) ?_
                          have hK9 := K_of hf hK
                          have hK9 := hO68 _ hK9
                          have hK9 := hO58 _ hK9
                          exact hRet (((nI 10) * x5) + x4) ftrial_106 _ _ _ _ hK9 dX6_need_139 hP hD hS
              · rcases ze with ftrial_68 | zo
                · try simp only [Sum.elim_inl] at hf
                  try dsimp only at hf
                  show ∀ (H : Heap) (locs : List Loc) (ls : Array Slot), va_P G.1 vwCl (wX6 G ad ado f ++ (wX0 G (ado 1) fnow ++ (wX0 G (ado 2) ftrial_68))) H → va_D A (wX6 G ad ado f ++ (wX0 G (ado 1) fnow ++ (wX0 G (ado 2) ftrial_68))) → va_S A s.heap H locs → lv_has ls 6 [(0, .ref (ad 0)), (1, .int x1), (2, .int x2), (3, .int x3), (4, .int x4)] → W p l e ({ frames := 4, cells := 0, slots := 0, locals := 83 }) s m args below meth c H locs 0 0 Q (F0 m 146 ls [])
                  intro H locs ls hP hD hS hl
                  refine lv_iinc (v := (x4 + nI 1)) (lv' := [(4, .int (x4 + nI 1)), (0, .ref (ad 0)), (1, .int x1), (2, .int x2), (3, .int x3)]) hx hb dX6_need_146 hl (k := 4) rfl (ii_x 1 _) (by decide) rfl (fun ls hl => ?_)
                  refine lv_goto (tgt := 58) hx hb dX6_need_149 (by decide) ?_
                  have hK9 := K_of hf hK
                  have hK9 := hW58 _ hK9
                  exact hK9 _ _ _ hP hD hS (lv_sub hl [1, 2, 3, 4, 0] rfl)
                · have hK9 := K_of (show some zo = some _ from hf) hK
                  exact hK9
          · rcases ze with ftrial_58 | zo
            · try simp only [Sum.elim_inl] at hf
              try dsimp only at hf
              show ∀ (H : Heap) (locs : List Loc) (ls : Array Slot), va_P G.1 vwCl (wX6 G ad ado f ++ (wX0 G (ado 1) fnow ++ (wX0 G (ado 2) ftrial_58))) H → va_D A (wX6 G ad ado f ++ (wX0 G (ado 1) fnow ++ (wX0 G (ado 2) ftrial_58))) → va_S A s.heap H locs → lv_has ls 6 [] → W p l e ({ frames := 4, cells := 0, slots := 0, locals := 83 }) s m args below meth c H locs 0 0 Q (F0 m 152 ls [])
              intro H locs ls hP hD hS hl
              refine lv_bipush (v := (-4 : Int32)) hx hb dX6_need_152 (bi_m4) ?_
              have hK9 := K0_of hf hK
              exact hRet (-4 : Int32) ftrial_58 _ _ _ _ hK9 dX6_need_154 hP hD hS
            · have hK9 := K0_of (show some zo = some _ from hf) hK
              exact hK9
        · have hf := if_t hf hc
          refine lv_bipush (v := (-2 : Int32)) hx hb dX6_need_41 (bi_m2) ?_
          have hK9 := K0_of hf hK
          exact hRet (-2 : Int32) ftrial _ _ _ _ hK9 dX6_need_43 hP hD hS
      · have hf := if_t hf hc
        refine lv_iconst (v := (-1 : Int32)) hx hb dX6_need_27 (ic_m1) ?_
        have hK9 := K0_of hf hK
        exact hRet (-1 : Int32) ftrial _ _ _ _ hK9 dX6_need_28 hP hD hS
noncomputable def p_X6_best_B40 (f : Mem) (fnow : Mem) (frowSearch : Mem) (frsflock : Mem) (x1 : Int32) (x2 : Int32) (x3 : Int32) : Option (Int32 × Mem × Mem) :=
  Option.bind (p_X1_findBest frowSearch frsflock fnow x1 x2) <| fun (frowSearch_50, frsflock_50) =>
  if x3 = (nI 0) then
    (some ((frowSearch_50 0 2), frowSearch_50, frsflock_50))
  else if x3 = (nI 1) then
    (some ((frowSearch_50 0 3), frowSearch_50, frsflock_50))
  else if x3 = (nI 2) then
    (some ((frowSearch_50 0 4), frowSearch_50, frsflock_50))
  else if x3 = (nI 10) then
    (some ((frowSearch_50 0 5), frowSearch_50, frsflock_50))
  else
    (some ((frowSearch_50 0 6), frowSearch_50, frsflock_50))
noncomputable def p_X6_best (f : Mem) (fnow : Mem) (frowSearch : Mem) (frsflock : Mem) (x1 : Int32) (x2 : Int32) (x3 : Int32) : Option (Int32 × Mem × Mem) :=
  Option.bind (p_X6_isOwner x1) <| fun r1 =>
  if r1 = 0 then
    (some ((-1 : Int32), frowSearch, frsflock))
  else
    (Option.bind (p_X6_isWithin x2 (nI 0) (nI 2)) <| fun r10 =>
     if r10 = 0 then
       (some ((-1 : Int32), frowSearch, frsflock))
     else
       (Option.bind (p_X6_isWithin x3 (nI 0) (nI 2)) <| fun r21 =>
        if r21 = 0 then
          (Option.bind (p_X6_isWithin x3 (nI 10) (nI 11)) <| fun r32 =>
           if r32 = 0 then
             (some ((-1 : Int32), frowSearch, frsflock))
           else
             (p_X6_best_B40 f fnow frowSearch frsflock x1 x2 x3))
        else
          (p_X6_best_B40 f fnow frowSearch frsflock x1 x2 x3)))
set_option maxHeartbeats 4000000 in
set_option maxRecDepth 100000 in
theorem c_X6_best (l : Launch) (G : Gt) (ad : Nat → Nat) (ado : Nat → Nat → Nat) (f : Mem) (fnow : Mem) (frowSearch : Mem) (frsflock : Mem) (x1 : Int32) (x2 : Int32) (x3 : Int32) (r : Int32) (frowSearchz : Mem) (frsflockz : Mem) (hf : p_X6_best f fnow frowSearch frsflock x1 x2 x3 = some (r, frowSearchz, frsflockz)) (sz : Nat) : Met l yX6_best wsX6_best ({ frames := 7, cells := 0, slots := 0, locals := 154 }) (Pc0 G sz [.ref (ad 0), .int x1, .int x2, .int x3] (wX6 G ad ado f ++ (wX0 G (ado 1) fnow ++ (wX1 G (ado 9) ((ado 10) 0) frowSearch ++ (wX0 G (ado 10) frsflock))))) (Qi0 G (va_A (wX6 G ad ado f ++ (wX0 G (ado 1) fnow ++ (wX1 G (ado 9) ((ado 10) 0) frowSearch ++ (wX0 G (ado 10) frsflock)))) sz) r (wX6 G ad ado f ++ (wX0 G (ado 1) fnow ++ (wX1 G (ado 9) ((ado 10) 0) frowSearchz ++ (wX0 G (ado 10) frsflockz))))) 0 0 (va_A (wX6 G ad ado f ++ (wX0 G (ado 1) fnow ++ (wX1 G (ado 9) ((ado 10) 0) frowSearch ++ (wX0 G (ado 10) frsflock)))) sz) := by
  refine metP (Qf := fun A => Qi0 G A r (wX6 G ad ado f ++ (wX0 G (ado 1) fnow ++ (wX1 G (ado 9) ((ado 10) 0) frowSearchz ++ (wX0 G (ado 10) frsflockz))))) cX6_best 4 (some .int) (by decide) rfl (Nat.le_of_ble_eq_true rfl) ?_
  intro p e s m below meth c A ls hC hr hlocks hin hE hA hsz hP hD hS hl
  generalize hargs : ([.ref (ad 0), .int x1, .int x2, .int x3] : List Value).toArray = args at hC ⊢
  obtain ⟨hx, hb, hml, hown, hts⟩ := id hC
  have hT : va_K G.1 vwCl (tyL G) s := hE.1
  have hRet : ∀ (r9 : Int32) (frowSearch9 : Mem) (frsflock9 : Mem) (H : Heap) (locs : List Loc) (ls : Array Slot) (pc : Nat) (hK9 : (r9, frowSearch9, frsflock9) = (r, frowSearchz, frsflockz)) (hdg : decode cX6_best pc = .ok (.ireturn, 1)), va_P G.1 vwCl (wX6 G ad ado f ++ (wX0 G (ado 1) fnow ++ (wX1 G (ado 9) ((ado 10) 0) frowSearch9 ++ (wX0 G (ado 10) frsflock9)))) H → va_D A (wX6 G ad ado f ++ (wX0 G (ado 1) fnow ++ (wX1 G (ado 9) ((ado 10) 0) frowSearch9 ++ (wX0 G (ado 10) frsflock9)))) → va_S A s.heap H locs → W p l e ({ frames := 7, cells := 0, slots := 0, locals := 154 }) s m args below meth c H locs 0 0 (MQ below (Qi0 G A r (wX6 G ad ado f ++ (wX0 G (ado 1) fnow ++ (wX1 G (ado 9) ((ado 10) 0) frowSearchz ++ (wX0 G (ado 10) frsflockz))))) args s 0 0 A) (F0 m pc ls [.int r9]) := by
    intro r9 frowSearch9 frsflock9 H locs ls pc hK9 hdg hP hD hS
    cases hK9
    exact W.iret hx hb hr (fun t ht hW => ⟨⟨r, (), rfl, rfl, by rw [ht]; exact hP, hD⟩, hS.F ht⟩) hS.2.2 hdg hlocks
  generalize MQ below (Qi0 G A r (wX6 G ad ado f ++ (wX0 G (ado 1) fnow ++ (wX1 G (ado 9) ((ado 10) 0) frowSearchz ++ (wX0 G (ado 10) frsflockz))))) args s 0 0 A = Q at hRet ⊢
  have lk55 := hts (.fieldLink RX6 55 "FeatherShares" "rowSearch" "LFeatherShares$RowSearch;") (by decide +kernel)
  have inX6 : ∀ w ∈ u_ws RX6 TX6 11, w ∈ wsX6_best := by decide +kernel
  have lk12 := hts (.fieldLink RX6 12 "FeatherShares" "now" "LFeatherShares$Flock;") (by decide +kernel)
  have lk220 := va_Nw.use (A := args) rfl (hE.2.1 (RX6, 220, "FeatherShares$RowSearch", "bestGeese", "I", "FeatherShares") (List.mem_of_getElem? (i := 19) rfl))
  have inX1 : ∀ w ∈ u_ws RX1 TX1 9, w ∈ wsX6_best := by decide +kernel
  have lk223 := va_Nw.use (A := args) rfl (hE.2.1 (RX6, 223, "FeatherShares$RowSearch", "bestMoney", "I", "FeatherShares") (List.mem_of_getElem? (i := 20) rfl))
  have lk226 := va_Nw.use (A := args) rfl (hE.2.1 (RX6, 226, "FeatherShares$RowSearch", "bestLength", "I", "FeatherShares") (List.mem_of_getElem? (i := 21) rfl))
  have lk229 := va_Nw.use (A := args) rfl (hE.2.1 (RX6, 229, "FeatherShares$RowSearch", "bestFirst", "I", "FeatherShares") (List.mem_of_getElem? (i := 22) rfl))
  have lk232 := va_Nw.use (A := args) rfl (hE.2.1 (RX6, 232, "FeatherShares$RowSearch", "bestSecond", "I", "FeatherShares") (List.mem_of_getElem? (i := 23) rfl))
  have hl : lv_has ls 4 [(0, .ref (ad 0)), (1, .int x1), (2, .int x2), (3, .int x3)] := hl
  have hK0 : (r, frowSearchz, frsflockz) = (r, frowSearchz, frsflockz) := rfl
  have hB40 : ∀ (f : Mem) (fnow : Mem) (frowSearch : Mem) (frsflock : Mem) (x1 : Int32) (x2 : Int32) (x3 : Int32) (res : Int32 × Mem × Mem) (hf : p_X6_best_B40 f fnow frowSearch frsflock x1 x2 x3 = some res) (hK : res = (r, frowSearchz, frsflockz)), ∀ (H : Heap) (locs : List Loc) (ls : Array Slot), va_P G.1 vwCl (wX6 G ad ado f ++ (wX0 G (ado 1) fnow ++ (wX1 G (ado 9) ((ado 10) 0) frowSearch ++ (wX0 G (ado 10) frsflock)))) H → va_D A (wX6 G ad ado f ++ (wX0 G (ado 1) fnow ++ (wX1 G (ado 9) ((ado 10) 0) frowSearch ++ (wX0 G (ado 10) frsflock)))) → va_S A s.heap H locs → lv_has ls 4 [(0, .ref (ad 0)), (1, .int x1), (2, .int x2), (3, .int x3)] → W p l e ({ frames := 7, cells := 0, slots := 0, locals := 154 }) s m args below meth c H locs 0 0 Q (F0 m 40 ls []) := by
    intro f fnow frowSearch frsflock x1 x2 x3 res hf hK H locs ls hP hD hS hl
    unfold p_X6_best_B40 at hf
    refine lv_aload_n hx hb dX6_best_40 rfl (lv_at hl 0 rfl) ?_
    refine va_get (C := RX6) (T := TX6) (N := 11) (ci := 6) (v := .ref ((ado 9) 0)) hx hb hts inX6 hown hT hP 0 rfl rfl 8 (Nat.le_of_ble_eq_true rfl) lk55 (fun _ h => h) rfl dX6_best_41 ?_
    refine lv_aload_n hx hb dX6_best_44 rfl (lv_at hl 0 rfl) ?_
    refine va_get (C := RX6) (T := TX6) (N := 11) (ci := 6) (v := .ref ((ado 1) 0)) hx hb hts inX6 hown hT hP 0 rfl rfl 0 (Nat.le_of_ble_eq_true rfl) lk12 (fun _ h => h) rfl dX6_best_45 ?_
    refine lv_iload_n hx hb dX6_best_48 rfl (lv_at hl 1 rfl) ?_
    refine lv_iload_n hx hb dX6_best_49 rfl (lv_at hl 2 rfl) ?_
    obtain ⟨⟨frowSearch_50, frsflock_50⟩, hc50, hf⟩ := bd_e hf
    try dsimp only at hf
    refine cl_v_up (Wd := (wX6 G ad ado f ++ (wX0 G (ado 1) fnow ++ (wX1 G (ado 9) ((ado 10) 0) frowSearch ++ (wX0 G (ado 10) frsflock))))) (Wc := (wX1 G (ado 9) ((ado 10) 0) frowSearch ++ (wX0 G (ado 10) frsflock ++ (wX0 G (ado 1) fnow)))) (W' := (wX1 G (ado 9) ((ado 10) 0) frowSearch_50 ++ (wX0 G (ado 10) frsflock_50 ++ (wX0 G (ado 1) fnow)))) (W2 := (wX6 G ad ado f ++ (wX0 G (ado 1) fnow ++ (wX1 G (ado 9) ((ado 10) 0) frowSearch_50 ++ (wX0 G (ado 10) frsflock_50))))) [15, 16, 17, 18, 19, 20, 21, 22, 23, 24, 25, 26, 27, 4, 5, 6, 7, 8, 9, 10, 11, 12, 13, 14] [0, 1, 2, 3] rfl rfl rfl rfl rfl (va_runVN (As := [.ref ((ado 1) 0), .int x1, .int x2]) (rest := []) hC (c_X1_findBest l G (ado 9) (ado 10) (ado 1) frowSearch frsflock fnow x1 x2 frowSearch_50 frsflock_50 hc50 _) ⟨va_cnB 3 hts gX6_best_X1_findBest_n216 rfl rfl rfl (hE.2.2 (RX6, 216, yX1_findBest, "FeatherShares") (List.mem_of_getElem? (i := 28) rfl)) (hts (.initialized RX1) (by decide +kernel)) (by decide +kernel) ⟨Nat.le_of_ble_eq_true rfl, Nat.le_of_ble_eq_true rfl⟩, hts (.instanceMethod yX1_findBest) (by decide +kernel), hts (.selects RX1 yX1_findBest yX1_findBest) (by decide +kernel)⟩ ⟨Pc0_blind, va_recv hT hP (q0 := 15) (ci := 1) rfl rfl, fun U hU hW => Pc0_at (Wd := (wX1 G (ado 9) ((ado 10) 0) frowSearch ++ (wX0 G (ado 10) frsflock ++ (wX0 G (ado 1) fnow)))) hE (hP.subm [15, 16, 17, 18, 19, 20, 21, 22, 23, 24, 25, 26, 27, 4, 5, 6, 7, 8, 9, 10, 11, 12, 13, 14] rfl) (hD.sub [15, 16, 17, 18, 19, 20, 21, 22, 23, 24, 25, 26, 27, 4, 5, 6, 7, 8, 9, 10, 11, 12, 13, 14] (by decide) rfl) hU hW⟩ rfl rfl hl.1 rfl (lv_room (Nat.le_of_ble_eq_true rfl)) dX6_best_50 ⟨Nat.zero_le _, Nat.zero_le _⟩) hS hA hP hD (fun H locs hP hD hS => ?_)
    refine lv_iload_n hx hb dX6_best_53 rfl (lv_at hl 3 rfl) ?_
    by_cases hs0 : x3 = (nI 0)
    · have hf := if_t hf hs0
      refine lv_lookup (tgt := 96) (off := 42) hx hb dX6_best_54 (by decide) (by rw [hs0]; rfl) (by decide) ?_
      refine lv_aload_n hx hb dX6_best_96 rfl (lv_at hl 0 rfl) ?_
      refine va_get (C := RX6) (T := TX6) (N := 11) (ci := 6) (v := .ref ((ado 9) 0)) hx hb hts inX6 hown hT hP 0 rfl rfl 8 (Nat.le_of_ble_eq_true rfl) lk55 (fun _ h => h) rfl dX6_best_97 ?_
      refine va_getN (C := RX1) (T := TX1) (N := 9) (ci := 1) (v := .int (frowSearch_50 0 2)) hx hb hts inX1 hown hT hP 15 rfl rfl 4 (Nat.le_of_ble_eq_true rfl) lk220 (fun _ h => h) rfl dX6_best_100 ?_
      have hK9 := K0_of hf hK
      exact hRet (frowSearch_50 0 2) frowSearch_50 frsflock_50 _ _ _ _ hK9 dX6_best_103 hP hD hS
    have hf := if_f hf hs0
    by_cases hs1 : x3 = (nI 1)
    · have hf := if_t hf hs1
      refine lv_lookup (tgt := 104) (off := 50) hx hb dX6_best_54 (by decide) (by rw [hs1]; rfl) (by decide) ?_
      refine lv_aload_n hx hb dX6_best_104 rfl (lv_at hl 0 rfl) ?_
      refine va_get (C := RX6) (T := TX6) (N := 11) (ci := 6) (v := .ref ((ado 9) 0)) hx hb hts inX6 hown hT hP 0 rfl rfl 8 (Nat.le_of_ble_eq_true rfl) lk55 (fun _ h => h) rfl dX6_best_105 ?_
      refine va_getN (C := RX1) (T := TX1) (N := 9) (ci := 1) (v := .int (frowSearch_50 0 3)) hx hb hts inX1 hown hT hP 15 rfl rfl 5 (Nat.le_of_ble_eq_true rfl) lk223 (fun _ h => h) rfl dX6_best_108 ?_
      have hK9 := K0_of hf hK
      exact hRet (frowSearch_50 0 3) frowSearch_50 frsflock_50 _ _ _ _ hK9 dX6_best_111 hP hD hS
    have hf := if_f hf hs1
    by_cases hs2 : x3 = (nI 2)
    · have hf := if_t hf hs2
      refine lv_lookup (tgt := 112) (off := 58) hx hb dX6_best_54 (by decide) (by rw [hs2]; rfl) (by decide) ?_
      refine lv_aload_n hx hb dX6_best_112 rfl (lv_at hl 0 rfl) ?_
      refine va_get (C := RX6) (T := TX6) (N := 11) (ci := 6) (v := .ref ((ado 9) 0)) hx hb hts inX6 hown hT hP 0 rfl rfl 8 (Nat.le_of_ble_eq_true rfl) lk55 (fun _ h => h) rfl dX6_best_113 ?_
      refine va_getN (C := RX1) (T := TX1) (N := 9) (ci := 1) (v := .int (frowSearch_50 0 4)) hx hb hts inX1 hown hT hP 15 rfl rfl 6 (Nat.le_of_ble_eq_true rfl) lk226 (fun _ h => h) rfl dX6_best_116 ?_
      have hK9 := K0_of hf hK
      exact hRet (frowSearch_50 0 4) frowSearch_50 frsflock_50 _ _ _ _ hK9 dX6_best_119 hP hD hS
    have hf := if_f hf hs2
    by_cases hs3 : x3 = (nI 10)
    · have hf := if_t hf hs3
      refine lv_lookup (tgt := 120) (off := 66) hx hb dX6_best_54 (by decide) (by rw [hs3]; rfl) (by decide) ?_
      refine lv_aload_n hx hb dX6_best_120 rfl (lv_at hl 0 rfl) ?_
      refine va_get (C := RX6) (T := TX6) (N := 11) (ci := 6) (v := .ref ((ado 9) 0)) hx hb hts inX6 hown hT hP 0 rfl rfl 8 (Nat.le_of_ble_eq_true rfl) lk55 (fun _ h => h) rfl dX6_best_121 ?_
      refine va_getN (C := RX1) (T := TX1) (N := 9) (ci := 1) (v := .int (frowSearch_50 0 5)) hx hb hts inX1 hown hT hP 15 rfl rfl 7 (Nat.le_of_ble_eq_true rfl) lk229 (fun _ h => h) rfl dX6_best_124 ?_
      have hK9 := K0_of hf hK
      exact hRet (frowSearch_50 0 5) frowSearch_50 frsflock_50 _ _ _ _ hK9 dX6_best_127 hP hD hS
    have hf := if_f hf hs3
    refine lv_lookup (tgt := 128) (off := 74) hx hb dX6_best_54 (by decide) (by have := [0]; simp [Op.lookupswitch.offset, ne_int hs0 (by decide), ne_int hs1 (by decide), ne_int hs2 (by decide), ne_int hs3 (by decide)]) (by decide) ?_
    refine lv_aload_n hx hb dX6_best_128 rfl (lv_at hl 0 rfl) ?_
    refine va_get (C := RX6) (T := TX6) (N := 11) (ci := 6) (v := .ref ((ado 9) 0)) hx hb hts inX6 hown hT hP 0 rfl rfl 8 (Nat.le_of_ble_eq_true rfl) lk55 (fun _ h => h) rfl dX6_best_129 ?_
    refine va_getN (C := RX1) (T := TX1) (N := 9) (ci := 1) (v := .int (frowSearch_50 0 6)) hx hb hts inX1 hown hT hP 15 rfl rfl 8 (Nat.le_of_ble_eq_true rfl) lk232 (fun _ h => h) rfl dX6_best_132 ?_
    have hK9 := K0_of hf hK
    exact hRet (frowSearch_50 0 6) frowSearch_50 frsflock_50 _ _ _ _ hK9 dX6_best_135 hP hD hS
  obtain ⟨res, hres, hK⟩ : ∃ res, p_X6_best f fnow frowSearch frsflock x1 x2 x3 = some res ∧ res = (r, frowSearchz, frsflockz) := ⟨_, hf, rfl⟩
  clear hf
  have hf := hres
  clear hres
  unfold p_X6_best at hf
  refine lv_iload_n hx hb dX6_best_0 rfl (lv_at hl 1 rfl) ?_
  obtain ⟨r1, hc1, hf⟩ := bd_e hf
  refine cl_z_ro (Wd := (wX6 G ad ado f ++ (wX0 G (ado 1) fnow ++ (wX1 G (ado 9) ((ado 10) 0) frowSearch ++ (wX0 G (ado 10) frsflock))))) (Wc := ([] : va_W)) [] rfl (va_runS (As := [.int x1]) (rest := []) hC (c_X6_isOwner l G x1 r1 hc1 _) (va_cwS 1 hts gX6_best_X6_isOwner rfl rfl rfl (by decide +kernel) ⟨Nat.le_of_ble_eq_true rfl, Nat.le_of_ble_eq_true rfl⟩) ⟨Pc0_blind, fun U hU hW => Pc0_at (Wd := ([] : va_W)) hE (hP.subm [] rfl) (hD.sub [] (by decide) rfl) hU hW⟩ rfl rfl hl.1 rfl (lv_room (Nat.le_of_ble_eq_true rfl)) dX6_best_1 ⟨Nat.zero_le _, Nat.zero_le _⟩) hS hA hP hD (fun H locs hn1 hP hD hS => ?_)
  refine lv_if_eq (tgt := 16) hx hb dX6_best_4 (by decide) (fun hc => ?_) (fun hc => ?_)
  · have hf := if_t hf hc
    refine lv_iconst (v := (-1 : Int32)) hx hb dX6_best_16 (ic_m1) ?_
    have hK9 := K0_of hf hK
    exact hRet (-1 : Int32) frowSearch frsflock _ _ _ _ hK9 dX6_best_17 hP hD hS
  · have hf := if_f hf hc
    refine lv_iload_n hx hb dX6_best_7 rfl (lv_at hl 2 rfl) ?_
    refine lv_iconst (v := (nI 0)) hx hb dX6_best_8 (ic_0) ?_
    refine lv_iconst (v := (nI 2)) hx hb dX6_best_9 (ic_2) ?_
    obtain ⟨r10, hc10, hf⟩ := bd_e hf
    refine cl_z_ro (Wd := (wX6 G ad ado f ++ (wX0 G (ado 1) fnow ++ (wX1 G (ado 9) ((ado 10) 0) frowSearch ++ (wX0 G (ado 10) frsflock))))) (Wc := ([] : va_W)) [] rfl (va_runS (As := [.int x2, .int (nI 0), .int (nI 2)]) (rest := []) hC (c_X6_isWithin l G x2 (nI 0) (nI 2) r10 hc10 _) (va_cwS 3 hts gX6_best_X6_isWithin rfl rfl rfl (by decide +kernel) ⟨Nat.le_of_ble_eq_true rfl, Nat.le_of_ble_eq_true rfl⟩) ⟨Pc0_blind, fun U hU hW => Pc0_at (Wd := ([] : va_W)) hE (hP.subm [] rfl) (hD.sub [] (by decide) rfl) hU hW⟩ rfl rfl hl.1 rfl (lv_room (Nat.le_of_ble_eq_true rfl)) dX6_best_10 ⟨Nat.zero_le _, Nat.zero_le _⟩) hS hA hP hD (fun H locs hn10 hP hD hS => ?_)
    refine lv_if_ne (tgt := 18) hx hb dX6_best_13 (by decide) (fun hc => ?_) (fun hc => ?_)
    · have hf := if_f hf hc
      refine lv_iload_n hx hb dX6_best_18 rfl (lv_at hl 3 rfl) ?_
      refine lv_iconst (v := (nI 0)) hx hb dX6_best_19 (ic_0) ?_
      refine lv_iconst (v := (nI 2)) hx hb dX6_best_20 (ic_2) ?_
      obtain ⟨r21, hc21, hf⟩ := bd_e hf
      refine cl_z_ro (Wd := (wX6 G ad ado f ++ (wX0 G (ado 1) fnow ++ (wX1 G (ado 9) ((ado 10) 0) frowSearch ++ (wX0 G (ado 10) frsflock))))) (Wc := ([] : va_W)) [] rfl (va_runS (As := [.int x3, .int (nI 0), .int (nI 2)]) (rest := []) hC (c_X6_isWithin l G x3 (nI 0) (nI 2) r21 hc21 _) (va_cwS 3 hts gX6_best_X6_isWithin rfl rfl rfl (by decide +kernel) ⟨Nat.le_of_ble_eq_true rfl, Nat.le_of_ble_eq_true rfl⟩) ⟨Pc0_blind, fun U hU hW => Pc0_at (Wd := ([] : va_W)) hE (hP.subm [] rfl) (hD.sub [] (by decide) rfl) hU hW⟩ rfl rfl hl.1 rfl (lv_room (Nat.le_of_ble_eq_true rfl)) dX6_best_21 ⟨Nat.zero_le _, Nat.zero_le _⟩) hS hA hP hD (fun H locs hn21 hP hD hS => ?_)
      refine lv_if_ne (tgt := 40) hx hb dX6_best_24 (by decide) (fun hc => ?_) (fun hc => ?_)
      · have hf := if_f hf hc
        exact hB40 f fnow frowSearch frsflock x1 x2 x3 _ hf hK _ _ _ hP hD hS (lv_sub hl [0, 1, 2, 3] rfl)
      · have hf := if_t hf hc
        refine lv_iload_n hx hb dX6_best_27 rfl (lv_at hl 3 rfl) ?_
        refine lv_bipush (v := (nI 10)) hx hb dX6_best_28 (bi_10) ?_
        refine lv_bipush (v := (nI 11)) hx hb dX6_best_30 (bi_11) ?_
        obtain ⟨r32, hc32, hf⟩ := bd_e hf
        refine cl_z_ro (Wd := (wX6 G ad ado f ++ (wX0 G (ado 1) fnow ++ (wX1 G (ado 9) ((ado 10) 0) frowSearch ++ (wX0 G (ado 10) frsflock))))) (Wc := ([] : va_W)) [] rfl (va_runS (As := [.int x3, .int (nI 10), .int (nI 11)]) (rest := []) hC (c_X6_isWithin l G x3 (nI 10) (nI 11) r32 hc32 _) (va_cwS 3 hts gX6_best_X6_isWithin rfl rfl rfl (by decide +kernel) ⟨Nat.le_of_ble_eq_true rfl, Nat.le_of_ble_eq_true rfl⟩) ⟨Pc0_blind, fun U hU hW => Pc0_at (Wd := ([] : va_W)) hE (hP.subm [] rfl) (hD.sub [] (by decide) rfl) hU hW⟩ rfl rfl hl.1 rfl (lv_room (Nat.le_of_ble_eq_true rfl)) dX6_best_32 ⟨Nat.zero_le _, Nat.zero_le _⟩) hS hA hP hD (fun H locs hn32 hP hD hS => ?_)
        refine lv_if_ne (tgt := 40) hx hb dX6_best_35 (by decide) (fun hc => ?_) (fun hc => ?_)
        · have hf := if_f hf hc
          exact hB40 f fnow frowSearch frsflock x1 x2 x3 _ hf hK _ _ _ hP hD hS (lv_sub hl [0, 1, 2, 3] rfl)
        · have hf := if_t hf hc
          refine lv_iconst (v := (-1 : Int32)) hx hb dX6_best_38 (ic_m1) ?_
          have hK9 := K0_of hf hK
          exact hRet (-1 : Int32) frowSearch frsflock _ _ _ _ hK9 dX6_best_39 hP hD hS
    · have hf := if_t hf hc
      refine lv_iconst (v := (-1 : Int32)) hx hb dX6_best_16 (ic_m1) ?_
      have hK9 := K0_of hf hK
      exact hRet (-1 : Int32) frowSearch frsflock _ _ _ _ hK9 dX6_best_17 hP hD hS
noncomputable def p_X6_worthByPlanWithout (f : Mem) (fnow : Mem) (ftrial : Mem) (x1 : Int32) (x2 : Int32) : Option (Int32 × Mem) :=
  Option.bind (p_X0_copyFrom ftrial fnow) <| fun ftrial_8 =>
  Option.bind (p_X0_followPlanWithout ftrial_8 x1) <| fun ftrial_16 =>
  Option.bind (p_X0_worth ftrial_16 x2) <| fun r24 =>
  some (r24, ftrial_16)
set_option maxHeartbeats 4000000 in
set_option maxRecDepth 100000 in
theorem c_X6_worthByPlanWithout (l : Launch) (G : Gt) (ad : Nat → Nat) (ado : Nat → Nat → Nat) (f : Mem) (fnow : Mem) (ftrial : Mem) (x1 : Int32) (x2 : Int32) (r : Int32) (ftrialz : Mem) (hf : p_X6_worthByPlanWithout f fnow ftrial x1 x2 = some (r, ftrialz)) (sz : Nat) : Met l yX6_worthByPlanWithout wsX6_worthByPlanWithout ({ frames := 7, cells := 0, slots := 0, locals := 150 }) (Pc0 G sz [.ref (ad 0), .int x1, .int x2] (wX6 G ad ado f ++ (wX0 G (ado 1) fnow ++ (wX0 G (ado 2) ftrial)))) (Qi0 G (va_A (wX6 G ad ado f ++ (wX0 G (ado 1) fnow ++ (wX0 G (ado 2) ftrial))) sz) r (wX6 G ad ado f ++ (wX0 G (ado 1) fnow ++ (wX0 G (ado 2) ftrialz)))) 0 0 (va_A (wX6 G ad ado f ++ (wX0 G (ado 1) fnow ++ (wX0 G (ado 2) ftrial))) sz) := by
  refine metP (Qf := fun A => Qi0 G A r (wX6 G ad ado f ++ (wX0 G (ado 1) fnow ++ (wX0 G (ado 2) ftrialz)))) cX6_worthByPlanWithout 3 (some .int) (by decide) rfl (Nat.le_of_ble_eq_true rfl) ?_
  intro p e s m below meth c A ls hC hr hlocks hin hE hA hsz hP hD hS hl
  generalize hargs : ([.ref (ad 0), .int x1, .int x2] : List Value).toArray = args at hC ⊢
  obtain ⟨hx, hb, hml, hown, hts⟩ := id hC
  have hT : va_K G.1 vwCl (tyL G) s := hE.1
  have hRet : ∀ (r9 : Int32) (ftrial9 : Mem) (H : Heap) (locs : List Loc) (ls : Array Slot) (pc : Nat) (hK9 : (r9, ftrial9) = (r, ftrialz)) (hdg : decode cX6_worthByPlanWithout pc = .ok (.ireturn, 1)), va_P G.1 vwCl (wX6 G ad ado f ++ (wX0 G (ado 1) fnow ++ (wX0 G (ado 2) ftrial9))) H → va_D A (wX6 G ad ado f ++ (wX0 G (ado 1) fnow ++ (wX0 G (ado 2) ftrial9))) → va_S A s.heap H locs → W p l e ({ frames := 7, cells := 0, slots := 0, locals := 150 }) s m args below meth c H locs 0 0 (MQ below (Qi0 G A r (wX6 G ad ado f ++ (wX0 G (ado 1) fnow ++ (wX0 G (ado 2) ftrialz)))) args s 0 0 A) (F0 m pc ls [.int r9]) := by
    intro r9 ftrial9 H locs ls pc hK9 hdg hP hD hS
    cases hK9
    exact W.iret hx hb hr (fun t ht hW => ⟨⟨r, (), rfl, rfl, by rw [ht]; exact hP, hD⟩, hS.F ht⟩) hS.2.2 hdg hlocks
  generalize MQ below (Qi0 G A r (wX6 G ad ado f ++ (wX0 G (ado 1) fnow ++ (wX0 G (ado 2) ftrialz)))) args s 0 0 A = Q at hRet ⊢
  have lk16 := hts (.fieldLink RX6 16 "FeatherShares" "trial" "LFeatherShares$Flock;") (by decide +kernel)
  have inX6 : ∀ w ∈ u_ws RX6 TX6 11, w ∈ wsX6_worthByPlanWithout := by decide +kernel
  have lk12 := hts (.fieldLink RX6 12 "FeatherShares" "now" "LFeatherShares$Flock;") (by decide +kernel)
  have hl : lv_has ls 3 [(0, .ref (ad 0)), (1, .int x1), (2, .int x2)] := hl
  have hK0 : (r, ftrialz) = (r, ftrialz) := rfl
  obtain ⟨res, hres, hK⟩ : ∃ res, p_X6_worthByPlanWithout f fnow ftrial x1 x2 = some res ∧ res = (r, ftrialz) := ⟨_, hf, rfl⟩
  clear hf
  have hf := hres
  clear hres
  unfold p_X6_worthByPlanWithout at hf
  refine lv_aload_n hx hb dX6_worthByPlanWithout_0 rfl (lv_at hl 0 rfl) ?_
  refine va_get (C := RX6) (T := TX6) (N := 11) (ci := 6) (v := .ref ((ado 2) 0)) hx hb hts inX6 hown hT hP 0 rfl rfl 1 (Nat.le_of_ble_eq_true rfl) lk16 (fun _ h => h) rfl dX6_worthByPlanWithout_1 ?_
  refine lv_aload_n hx hb dX6_worthByPlanWithout_4 rfl (lv_at hl 0 rfl) ?_
  refine va_get (C := RX6) (T := TX6) (N := 11) (ci := 6) (v := .ref ((ado 1) 0)) hx hb hts inX6 hown hT hP 0 rfl rfl 0 (Nat.le_of_ble_eq_true rfl) lk12 (fun _ h => h) rfl dX6_worthByPlanWithout_5 ?_
  obtain ⟨ftrial_8, hc8, hf⟩ := bd_e hf
  refine cl_v_up (Wd := (wX6 G ad ado f ++ (wX0 G (ado 1) fnow ++ (wX0 G (ado 2) ftrial)))) (Wc := (wX0 G (ado 2) ftrial ++ (wX0 G (ado 1) fnow))) (W' := (wX0 G (ado 2) ftrial_8 ++ (wX0 G (ado 1) fnow))) (W2 := (wX6 G ad ado f ++ (wX0 G (ado 1) fnow ++ (wX0 G (ado 2) ftrial_8)))) [15, 16, 17, 18, 19, 20, 21, 22, 23, 24, 25, 4, 5, 6, 7, 8, 9, 10, 11, 12, 13, 14] [0, 1, 2, 3] rfl rfl rfl rfl rfl (va_runVN (As := [.ref ((ado 1) 0)]) (rest := []) hC (c_X0_copyFrom l G (ado 2) (ado 1) ftrial fnow ftrial_8 hc8 _) ⟨va_cnB 1 hts gX6_worthByPlanWithout_X0_copyFrom_n93 rfl rfl rfl (hE.2.2 (RX6, 93, yX0_copyFrom, "FeatherShares") (List.mem_of_getElem? (i := 8) rfl)) (hts (.initialized RX0) (by decide +kernel)) (by decide +kernel) ⟨Nat.le_of_ble_eq_true rfl, Nat.le_of_ble_eq_true rfl⟩, hts (.instanceMethod yX0_copyFrom) (by decide +kernel), hts (.selects RX0 yX0_copyFrom yX0_copyFrom) (by decide +kernel)⟩ ⟨Pc0_blind, va_recv hT hP (q0 := 15) (ci := 0) rfl rfl, fun U hU hW => Pc0_at (Wd := (wX0 G (ado 2) ftrial ++ (wX0 G (ado 1) fnow))) hE (hP.subm [15, 16, 17, 18, 19, 20, 21, 22, 23, 24, 25, 4, 5, 6, 7, 8, 9, 10, 11, 12, 13, 14] rfl) (hD.sub [15, 16, 17, 18, 19, 20, 21, 22, 23, 24, 25, 4, 5, 6, 7, 8, 9, 10, 11, 12, 13, 14] (by decide) rfl) hU hW⟩ rfl rfl hl.1 rfl (lv_room (Nat.le_of_ble_eq_true rfl)) dX6_worthByPlanWithout_8 ⟨Nat.zero_le _, Nat.zero_le _⟩) hS hA hP hD (fun H locs hP hD hS => ?_)
  refine lv_aload_n hx hb dX6_worthByPlanWithout_11 rfl (lv_at hl 0 rfl) ?_
  refine va_get (C := RX6) (T := TX6) (N := 11) (ci := 6) (v := .ref ((ado 2) 0)) hx hb hts inX6 hown hT hP 0 rfl rfl 1 (Nat.le_of_ble_eq_true rfl) lk16 (fun _ h => h) rfl dX6_worthByPlanWithout_12 ?_
  refine lv_iload_n hx hb dX6_worthByPlanWithout_15 rfl (lv_at hl 1 rfl) ?_
  obtain ⟨ftrial_16, hc16, hf⟩ := bd_e hf
  refine cl_v_up (Wd := (wX6 G ad ado f ++ (wX0 G (ado 1) fnow ++ (wX0 G (ado 2) ftrial_8)))) (Wc := (wX0 G (ado 2) ftrial_8)) (W' := (wX0 G (ado 2) ftrial_16)) (W2 := (wX6 G ad ado f ++ (wX0 G (ado 1) fnow ++ (wX0 G (ado 2) ftrial_16)))) [15, 16, 17, 18, 19, 20, 21, 22, 23, 24, 25] [0, 1, 2, 3, 4, 5, 6, 7, 8, 9, 10, 11, 12, 13, 14] rfl rfl rfl rfl rfl (va_runVN (As := [.int x1]) (rest := []) hC (c_X0_followPlanWithout l G (ado 2) ftrial_8 x1 ftrial_16 hc16 _) ⟨va_cnB 1 hts gX6_worthByPlanWithout_X0_followPlanWithout_n203 rfl rfl rfl (hE.2.2 (RX6, 203, yX0_followPlanWithout, "FeatherShares") (List.mem_of_getElem? (i := 24) rfl)) (hts (.initialized RX0) (by decide +kernel)) (by decide +kernel) ⟨Nat.le_of_ble_eq_true rfl, Nat.le_of_ble_eq_true rfl⟩, hts (.instanceMethod yX0_followPlanWithout) (by decide +kernel), hts (.selects RX0 yX0_followPlanWithout yX0_followPlanWithout) (by decide +kernel)⟩ ⟨Pc0_blind, va_recv hT hP (q0 := 15) (ci := 0) rfl rfl, fun U hU hW => Pc0_at (Wd := (wX0 G (ado 2) ftrial_8)) hE (hP.subm [15, 16, 17, 18, 19, 20, 21, 22, 23, 24, 25] rfl) (hD.sub [15, 16, 17, 18, 19, 20, 21, 22, 23, 24, 25] (by decide) rfl) hU hW⟩ rfl rfl hl.1 rfl (lv_room (Nat.le_of_ble_eq_true rfl)) dX6_worthByPlanWithout_16 ⟨Nat.zero_le _, Nat.zero_le _⟩) hS hA hP hD (fun H locs hP hD hS => ?_)
  refine lv_aload_n hx hb dX6_worthByPlanWithout_19 rfl (lv_at hl 0 rfl) ?_
  refine va_get (C := RX6) (T := TX6) (N := 11) (ci := 6) (v := .ref ((ado 2) 0)) hx hb hts inX6 hown hT hP 0 rfl rfl 1 (Nat.le_of_ble_eq_true rfl) lk16 (fun _ h => h) rfl dX6_worthByPlanWithout_20 ?_
  refine lv_iload_n hx hb dX6_worthByPlanWithout_23 rfl (lv_at hl 2 rfl) ?_
  obtain ⟨r24, hc24, hf⟩ := bd_e hf
  refine cl_i_ro (Wd := (wX6 G ad ado f ++ (wX0 G (ado 1) fnow ++ (wX0 G (ado 2) ftrial_16)))) (Wc := (wX0 G (ado 2) ftrial_16)) [15, 16, 17, 18, 19, 20, 21, 22, 23, 24, 25] rfl (va_runVN (As := [.int x2]) (rest := []) hC (c_X0_worth l G (ado 2) ftrial_16 x2 r24 hc24 _) ⟨va_cnB 1 hts gX6_worthByPlanWithout_X0_worth_n210 rfl rfl rfl (hE.2.2 (RX6, 210, yX0_worth, "FeatherShares") (List.mem_of_getElem? (i := 26) rfl)) (hts (.initialized RX0) (by decide +kernel)) (by decide +kernel) ⟨Nat.le_of_ble_eq_true rfl, Nat.le_of_ble_eq_true rfl⟩, hts (.instanceMethod yX0_worth) (by decide +kernel), hts (.selects RX0 yX0_worth yX0_worth) (by decide +kernel)⟩ ⟨Pc0_blind, va_recv hT hP (q0 := 15) (ci := 0) rfl rfl, fun U hU hW => Pc0_at (Wd := (wX0 G (ado 2) ftrial_16)) hE (hP.subm [15, 16, 17, 18, 19, 20, 21, 22, 23, 24, 25] rfl) (hD.sub [15, 16, 17, 18, 19, 20, 21, 22, 23, 24, 25] (by decide) rfl) hU hW⟩ rfl rfl hl.1 rfl (lv_room (Nat.le_of_ble_eq_true rfl)) dX6_worthByPlanWithout_24 ⟨Nat.zero_le _, Nat.zero_le _⟩) hS hA hP hD (fun H locs hP hD hS => ?_)
  have hK9 := K0_of hf hK
  exact hRet r24 ftrial_16 _ _ _ _ hK9 dX6_worthByPlanWithout_27 hP hD hS
noncomputable def p_X6_leave_L33 (f : Mem) (fnow : Mem) (x1 : Int32) (x2 : Int32) (z : Int32 × Int32 × Int32 × Mem) : Option ((Int32 × Int32 × Int32 × Mem) ⊕ (Int32 × Int32 × Mem)) :=
  match z with
  | (x3, x4, x5, ftrial_) =>
    if (fnow 0 2) ≤ x5 then
      (some (Sum.inr (x3, x4, ftrial_)))
    else
      (Option.bind (p_X6_worthByPlanWithout f fnow ftrial_ x5 x1) <| fun (r49, ftrial_49) =>
       if r49 ≤ x3 then
         (some (Sum.inl (x3, x4, (x5 + nI 1), ftrial_49)))
       else
         (some (Sum.inl (r49, x5, (x5 + nI 1), ftrial_49))))
noncomputable def p_X6_leave (f : Mem) (fnow : Mem) (ftrial : Mem) (x1 : Int32) (x2 : Int32) : Option (Int32 × Mem) :=
  Option.bind (p_X6_isOwner x1) <| fun r1 =>
  if r1 = 0 then
    (some ((-1 : Int32), ftrial))
  else
    (Option.bind (p_X6_isWithin x2 (nI 0) (nI 1)) <| fun r10 =>
     if r10 = 0 then
       (some ((-1 : Int32), ftrial))
     else
       (Option.bind (p_X6_worthByPlanWithout f fnow ftrial (-4 : Int32) x1) <| fun (r22, ftrial_22) =>
        Option.bind (lp (p_X6_leave_L33 f fnow x1 x2) (r22, (-4 : Int32), (nI 0), ftrial_22)) <| fun (y3_33, y4_33, ftrial_33) =>
        if x2 = 0 then
          (some (y4_33, ftrial_33))
        else
          (if y4_33 = (-4 : Int32) then
             (some (y4_33, ftrial_33))
           else
             (some (y3_33, ftrial_33)))))
set_option maxHeartbeats 4000000 in
set_option maxRecDepth 100000 in
theorem c_X6_leave (l : Launch) (G : Gt) (ad : Nat → Nat) (ado : Nat → Nat → Nat) (f : Mem) (fnow : Mem) (ftrial : Mem) (x1 : Int32) (x2 : Int32) (r : Int32) (ftrialz : Mem) (hf : p_X6_leave f fnow ftrial x1 x2 = some (r, ftrialz)) (sz : Nat) : Met l yX6_leave wsX6_leave ({ frames := 8, cells := 0, slots := 0, locals := 172 }) (Pc0 G sz [.ref (ad 0), .int x1, .int x2] (wX6 G ad ado f ++ (wX0 G (ado 1) fnow ++ (wX0 G (ado 2) ftrial)))) (Qi0 G (va_A (wX6 G ad ado f ++ (wX0 G (ado 1) fnow ++ (wX0 G (ado 2) ftrial))) sz) r (wX6 G ad ado f ++ (wX0 G (ado 1) fnow ++ (wX0 G (ado 2) ftrialz)))) 0 0 (va_A (wX6 G ad ado f ++ (wX0 G (ado 1) fnow ++ (wX0 G (ado 2) ftrial))) sz) := by
  refine metP (Qf := fun A => Qi0 G A r (wX6 G ad ado f ++ (wX0 G (ado 1) fnow ++ (wX0 G (ado 2) ftrialz)))) cX6_leave 7 (some .int) (by decide) rfl (Nat.le_of_ble_eq_true rfl) ?_
  intro p e s m below meth c A ls hC hr hlocks hin hE hA hsz hP hD hS hl
  generalize hargs : ([.ref (ad 0), .int x1, .int x2] : List Value).toArray = args at hC ⊢
  obtain ⟨hx, hb, hml, hown, hts⟩ := id hC
  have hT : va_K G.1 vwCl (tyL G) s := hE.1
  have hRet : ∀ (r9 : Int32) (ftrial9 : Mem) (H : Heap) (locs : List Loc) (ls : Array Slot) (pc : Nat) (hK9 : (r9, ftrial9) = (r, ftrialz)) (hdg : decode cX6_leave pc = .ok (.ireturn, 1)), va_P G.1 vwCl (wX6 G ad ado f ++ (wX0 G (ado 1) fnow ++ (wX0 G (ado 2) ftrial9))) H → va_D A (wX6 G ad ado f ++ (wX0 G (ado 1) fnow ++ (wX0 G (ado 2) ftrial9))) → va_S A s.heap H locs → W p l e ({ frames := 8, cells := 0, slots := 0, locals := 172 }) s m args below meth c H locs 0 0 (MQ below (Qi0 G A r (wX6 G ad ado f ++ (wX0 G (ado 1) fnow ++ (wX0 G (ado 2) ftrialz)))) args s 0 0 A) (F0 m pc ls [.int r9]) := by
    intro r9 ftrial9 H locs ls pc hK9 hdg hP hD hS
    cases hK9
    exact W.iret hx hb hr (fun t ht hW => ⟨⟨r, (), rfl, rfl, by rw [ht]; exact hP, hD⟩, hS.F ht⟩) hS.2.2 hdg hlocks
  generalize MQ below (Qi0 G A r (wX6 G ad ado f ++ (wX0 G (ado 1) fnow ++ (wX0 G (ado 2) ftrialz)))) args s 0 0 A = Q at hRet ⊢
  have lk12 := hts (.fieldLink RX6 12 "FeatherShares" "now" "LFeatherShares$Flock;") (by decide +kernel)
  have inX6 : ∀ w ∈ u_ws RX6 TX6 11, w ∈ wsX6_leave := by decide +kernel
  have lk109 := va_Nw.use (A := args) rfl (hE.2.1 (RX6, 109, "FeatherShares$Flock", "trades", "I", "FeatherShares") (List.mem_of_getElem? (i := 8) rfl))
  have inX0 : ∀ w ∈ u_ws RX0 TX0 13, w ∈ wsX6_leave := by decide +kernel
  have hl : lv_has ls 7 [(0, .ref (ad 0)), (1, .int x1), (2, .int x2)] := hl
  have hK0 : (r, ftrialz) = (r, ftrialz) := rfl
  obtain ⟨res, hres, hK⟩ : ∃ res, p_X6_leave f fnow ftrial x1 x2 = some res ∧ res = (r, ftrialz) := ⟨_, hf, rfl⟩
  clear hf
  have hf := hres
  clear hres
  unfold p_X6_leave at hf
  refine lv_iload_n hx hb dX6_leave_0 rfl (lv_at hl 1 rfl) ?_
  obtain ⟨r1, hc1, hf⟩ := bd_e hf
  refine cl_z_ro (Wd := (wX6 G ad ado f ++ (wX0 G (ado 1) fnow ++ (wX0 G (ado 2) ftrial)))) (Wc := ([] : va_W)) [] rfl (va_runS (As := [.int x1]) (rest := []) hC (c_X6_isOwner l G x1 r1 hc1 _) (va_cwS 1 hts gX6_leave_X6_isOwner rfl rfl rfl (by decide +kernel) ⟨Nat.le_of_ble_eq_true rfl, Nat.le_of_ble_eq_true rfl⟩) ⟨Pc0_blind, fun U hU hW => Pc0_at (Wd := ([] : va_W)) hE (hP.subm [] rfl) (hD.sub [] (by decide) rfl) hU hW⟩ rfl rfl hl.1 rfl (lv_room (Nat.le_of_ble_eq_true rfl)) dX6_leave_1 ⟨Nat.zero_le _, Nat.zero_le _⟩) hS hA hP hD (fun H locs hn1 hP hD hS => ?_)
  refine lv_if_eq (tgt := 16) hx hb dX6_leave_4 (by decide) (fun hc => ?_) (fun hc => ?_)
  · have hf := if_t hf hc
    refine lv_iconst (v := (-1 : Int32)) hx hb dX6_leave_16 (ic_m1) ?_
    have hK9 := K0_of hf hK
    exact hRet (-1 : Int32) ftrial _ _ _ _ hK9 dX6_leave_17 hP hD hS
  · have hf := if_f hf hc
    refine lv_iload_n hx hb dX6_leave_7 rfl (lv_at hl 2 rfl) ?_
    refine lv_iconst (v := (nI 0)) hx hb dX6_leave_8 (ic_0) ?_
    refine lv_iconst (v := (nI 1)) hx hb dX6_leave_9 (ic_1) ?_
    obtain ⟨r10, hc10, hf⟩ := bd_e hf
    refine cl_z_ro (Wd := (wX6 G ad ado f ++ (wX0 G (ado 1) fnow ++ (wX0 G (ado 2) ftrial)))) (Wc := ([] : va_W)) [] rfl (va_runS (As := [.int x2, .int (nI 0), .int (nI 1)]) (rest := []) hC (c_X6_isWithin l G x2 (nI 0) (nI 1) r10 hc10 _) (va_cwS 3 hts gX6_leave_X6_isWithin rfl rfl rfl (by decide +kernel) ⟨Nat.le_of_ble_eq_true rfl, Nat.le_of_ble_eq_true rfl⟩) ⟨Pc0_blind, fun U hU hW => Pc0_at (Wd := ([] : va_W)) hE (hP.subm [] rfl) (hD.sub [] (by decide) rfl) hU hW⟩ rfl rfl hl.1 rfl (lv_room (Nat.le_of_ble_eq_true rfl)) dX6_leave_10 ⟨Nat.zero_le _, Nat.zero_le _⟩) hS hA hP hD (fun H locs hn10 hP hD hS => ?_)
    refine lv_if_ne (tgt := 18) hx hb dX6_leave_13 (by decide) (fun hc => ?_) (fun hc => ?_)
    · have hf := if_f hf hc
      refine lv_aload_n hx hb dX6_leave_18 rfl (lv_at hl 0 rfl) ?_
      refine lv_bipush (v := (-4 : Int32)) hx hb dX6_leave_19 (bi_m4) ?_
      refine lv_iload_n hx hb dX6_leave_21 rfl (lv_at hl 1 rfl) ?_
      obtain ⟨⟨r22, ftrial_22⟩, hc22, hf⟩ := bd_e hf
      try dsimp only at hf
      refine cl_i_same (Wd := (wX6 G ad ado f ++ (wX0 G (ado 1) fnow ++ (wX0 G (ado 2) ftrial)))) (W' := (wX6 G ad ado f ++ (wX0 G (ado 1) fnow ++ (wX0 G (ado 2) ftrial_22)))) (va_runV (As := [.int (-4 : Int32), .int x1]) (rest := []) hC (c_X6_worthByPlanWithout l G ad ado f fnow ftrial (-4 : Int32) x1 r22 ftrial_22 hc22 _) (cwV 2 hts gX6_leave_X6_worthByPlanWithout rfl rfl rfl (by decide +kernel) ⟨Nat.le_of_ble_eq_true rfl, Nat.le_of_ble_eq_true rfl⟩) ⟨Pc0_blind, va_recv hT hP (q0 := 0) (ci := 6) rfl rfl, fun U hU hW => Pc0_at hE hP hD hU hW⟩ rfl rfl hl.1 rfl (lv_room (Nat.le_of_ble_eq_true rfl)) dX6_leave_22 ⟨Nat.zero_le _, Nat.zero_le _⟩) hS hA hD (fun H locs hP hD hS => ?_)
      refine lv_istore_n (lv' := [(3, .int r22), (0, .ref (ad 0)), (1, .int x1), (2, .int x2)]) hx hb dX6_leave_25 rfl hl (by decide) rfl (fun ls hl => ?_)
      refine lv_bipush (v := (-4 : Int32)) hx hb dX6_leave_26 (bi_m4) ?_
      refine lv_istore (lv' := [(4, .int (-4 : Int32)), (3, .int r22), (0, .ref (ad 0)), (1, .int x1), (2, .int x2)]) hx hb dX6_leave_28 hl (by decide) rfl (fun ls hl => ?_)
      refine lv_iconst (v := (nI 0)) hx hb dX6_leave_30 (ic_0) ?_
      refine lv_istore (lv' := [(5, .int (nI 0)), (4, .int (-4 : Int32)), (3, .int r22), (0, .ref (ad 0)), (1, .int x1), (2, .int x2)]) hx hb dX6_leave_31 hl (by decide) rfl (fun ls hl => ?_)
      obtain ⟨⟨y3_33, y4_33, ftrial_33⟩, hlp, hf⟩ := bd_e hf
      refine lp_W1 (p_X6_leave_L33 f fnow x1 x2) (fun z => match z with | (x3, x4, x5, ftrial_) => ∀ (H : Heap) (locs : List Loc) (ls : Array Slot), va_P G.1 vwCl (wX6 G ad ado f ++ (wX0 G (ado 1) fnow ++ (wX0 G (ado 2) ftrial_))) H → va_D A (wX6 G ad ado f ++ (wX0 G (ado 1) fnow ++ (wX0 G (ado 2) ftrial_))) → va_S A s.heap H locs → lv_has ls 7 [(0, .ref (ad 0)), (1, .int x1), (2, .int x2), (3, .int x3), (4, .int x4), (5, .int x5)] → W p l e ({ frames := 8, cells := 0, slots := 0, locals := 172 }) s m args below meth c H locs 0 0 Q (F0 m 33 ls [])) (fun z => match z with | (y3_33, y4_33, ftrial_33) => ∀ (H : Heap) (locs : List Loc) (ls : Array Slot), va_P G.1 vwCl (wX6 G ad ado f ++ (wX0 G (ado 1) fnow ++ (wX0 G (ado 2) ftrial_33))) H → va_D A (wX6 G ad ado f ++ (wX0 G (ado 1) fnow ++ (wX0 G (ado 2) ftrial_33))) → va_S A s.heap H locs → lv_has ls 7 [(2, .int x2), (3, .int y3_33), (4, .int y4_33)] → W p l e ({ frames := 8, cells := 0, slots := 0, locals := 172 }) s m args below meth c H locs 0 0 Q (F0 m 73 ls [])) ?_ hlp ?_ _ _ _ hP hD hS (lv_sub hl [3, 4, 5, 2, 1, 0] rfl)
      · clear hlp hf hK hP hD hS hl
        intro K33 hW33 hX33 
        rintro ⟨x3, x4, x5, ftrial_⟩ res hf hK H locs ls hP hD hS hl
        unfold p_X6_leave_L33 at hf
        dsimp only at hf
        refine lv_iload hx hb dX6_leave_33 (lv_at hl 5 rfl) ?_
        refine lv_aload_n hx hb dX6_leave_35 rfl (lv_at hl 0 rfl) ?_
        refine va_get (C := RX6) (T := TX6) (N := 11) (ci := 6) (v := .ref ((ado 1) 0)) hx hb hts inX6 hown hT hP 0 rfl rfl 0 (Nat.le_of_ble_eq_true rfl) lk12 (fun _ h => h) rfl dX6_leave_36 ?_
        refine va_getN (C := RX0) (T := TX0) (N := 13) (ci := 0) (v := .int (fnow 0 2)) hx hb hts inX0 hown hT hP 4 rfl rfl 2 (Nat.le_of_ble_eq_true rfl) lk109 (fun _ h => h) rfl dX6_leave_39 ?_
        refine lv_icmp_ge (tgt := 73) hx hb dX6_leave_42 (by decide) (fun hc => ?_) (fun hc => ?_)
        · have hf := if_t hf hc
          have hK9 := K_of hf hK
          have hK9 := hX33 _ hK9
          exact hK9 _ _ _ hP hD hS (lv_sub hl [2, 3, 4] rfl)
        · have hf := if_f hf hc
          refine lv_aload_n hx hb dX6_leave_45 rfl (lv_at hl 0 rfl) ?_
          refine lv_iload hx hb dX6_leave_46 (lv_at hl 5 rfl) ?_
          refine lv_iload_n hx hb dX6_leave_48 rfl (lv_at hl 1 rfl) ?_
          obtain ⟨⟨r49, ftrial_49⟩, hc49, hf⟩ := bd_e hf
          try dsimp only at hf
          refine cl_i_same (Wd := (wX6 G ad ado f ++ (wX0 G (ado 1) fnow ++ (wX0 G (ado 2) ftrial_)))) (W' := (wX6 G ad ado f ++ (wX0 G (ado 1) fnow ++ (wX0 G (ado 2) ftrial_49)))) (va_runV (As := [.int x5, .int x1]) (rest := []) hC (c_X6_worthByPlanWithout l G ad ado f fnow ftrial_ x5 x1 r49 ftrial_49 hc49 _) (cwV 2 hts gX6_leave_X6_worthByPlanWithout rfl rfl rfl (by decide +kernel) ⟨Nat.le_of_ble_eq_true rfl, Nat.le_of_ble_eq_true rfl⟩) ⟨Pc0_blind, va_recv hT hP (q0 := 0) (ci := 6) rfl rfl, fun U hU hW => Pc0_at hE hP hD hU hW⟩ rfl rfl hl.1 rfl (lv_room (Nat.le_of_ble_eq_true rfl)) dX6_leave_49 ⟨Nat.zero_le _, Nat.zero_le _⟩) hS hA hD (fun H locs hP hD hS => ?_)
          refine lv_istore (lv' := [(6, .int r49), (0, .ref (ad 0)), (1, .int x1), (2, .int x2), (3, .int x3), (4, .int x4), (5, .int x5)]) hx hb dX6_leave_52 hl (by decide) rfl (fun ls hl => ?_)
          refine lv_iload hx hb dX6_leave_54 (lv_at hl 0 rfl) ?_
          refine lv_iload_n hx hb dX6_leave_56 rfl (lv_at hl 4 rfl) ?_
          refine lv_icmp_le (tgt := 67) hx hb dX6_leave_57 (by decide) (fun hc => ?_) (fun hc => ?_)
          · have hf := if_t hf hc
            refine lv_iinc (v := (x5 + nI 1)) (lv' := [(5, .int (x5 + nI 1)), (6, .int r49), (0, .ref (ad 0)), (1, .int x1), (2, .int x2), (3, .int x3), (4, .int x4)]) hx hb dX6_leave_67 hl (k := 6) rfl (ii_x 1 _) (by decide) rfl (fun ls hl => ?_)
            refine lv_goto (tgt := 33) hx hb dX6_leave_70 (by decide) ?_
            have hK9 := K_of hf hK
            have hK9 := hW33 _ hK9
            exact hK9 _ _ _ hP hD hS (lv_sub hl [2, 3, 4, 5, 6, 0] rfl)
          · have hf := if_f hf hc
            refine lv_iload hx hb dX6_leave_60 (lv_at hl 0 rfl) ?_
            refine lv_istore_n (lv' := [(3, .int r49), (6, .int r49), (0, .ref (ad 0)), (1, .int x1), (2, .int x2), (4, .int x4), (5, .int x5)]) hx hb dX6_leave_62 rfl hl (by decide) rfl (fun ls hl => ?_)
            refine lv_iload hx hb dX6_leave_63 (lv_at hl 6 rfl) ?_
            refine lv_istore (lv' := [(4, .int x5), (3, .int r49), (6, .int r49), (0, .ref (ad 0)), (1, .int x1), (2, .int x2), (5, .int x5)]) hx hb dX6_leave_65 hl (by decide) rfl (fun ls hl => ?_)
            refine lv_iinc (v := (x5 + nI 1)) (lv' := [(5, .int (x5 + nI 1)), (4, .int x5), (3, .int r49), (6, .int r49), (0, .ref (ad 0)), (1, .int x1), (2, .int x2)]) hx hb dX6_leave_67 hl (k := 6) rfl (ii_x 1 _) (by decide) rfl (fun ls hl => ?_)
            refine lv_goto (tgt := 33) hx hb dX6_leave_70 (by decide) ?_
            have hK9 := K_of hf hK
            have hK9 := hW33 _ hK9
            exact hK9 _ _ _ hP hD hS (lv_sub hl [4, 5, 6, 2, 1, 0] rfl)
      · try dsimp only at hf
        show ∀ (H : Heap) (locs : List Loc) (ls : Array Slot), va_P G.1 vwCl (wX6 G ad ado f ++ (wX0 G (ado 1) fnow ++ (wX0 G (ado 2) ftrial_33))) H → va_D A (wX6 G ad ado f ++ (wX0 G (ado 1) fnow ++ (wX0 G (ado 2) ftrial_33))) → va_S A s.heap H locs → lv_has ls 7 [(2, .int x2), (3, .int y3_33), (4, .int y4_33)] → W p l e ({ frames := 8, cells := 0, slots := 0, locals := 172 }) s m args below meth c H locs 0 0 Q (F0 m 73 ls [])
        intro H locs ls hP hD hS hl
        refine lv_iload_n hx hb dX6_leave_73 rfl (lv_at hl 0 rfl) ?_
        refine lv_if_eq (tgt := 84) hx hb dX6_leave_74 (by decide) (fun hc => ?_) (fun hc => ?_)
        · have hf := if_t hf hc
          refine lv_iload hx hb dX6_leave_84 (lv_at hl 2 rfl) ?_
          refine lv_goto (tgt := 90) hx hb dX6_leave_86 (by decide) ?_
          have hK9 := K0_of hf hK
          exact hRet y4_33 ftrial_33 _ _ _ _ hK9 dX6_leave_90 hP hD hS
        · have hf := if_f hf hc
          refine lv_iload hx hb dX6_leave_77 (lv_at hl 2 rfl) ?_
          refine lv_bipush (v := (-4 : Int32)) hx hb dX6_leave_79 (bi_m4) ?_
          refine lv_icmp_ne (tgt := 89) hx hb dX6_leave_81 (by decide) (fun hc => ?_) (fun hc => ?_)
          · have hf := if_f hf hc
            refine lv_iload_n hx hb dX6_leave_89 rfl (lv_at hl 1 rfl) ?_
            have hK9 := K0_of hf hK
            exact hRet y3_33 ftrial_33 _ _ _ _ hK9 dX6_leave_90 hP hD hS
          · have hf := if_t hf hc
            refine lv_iload hx hb dX6_leave_84 (lv_at hl 2 rfl) ?_
            refine lv_goto (tgt := 90) hx hb dX6_leave_86 (by decide) ?_
            have hK9 := K0_of hf hK
            exact hRet y4_33 ftrial_33 _ _ _ _ hK9 dX6_leave_90 hP hD hS
    · have hf := if_t hf hc
      refine lv_iconst (v := (-1 : Int32)) hx hb dX6_leave_16 (ic_m1) ?_
      have hK9 := K0_of hf hK
      exact hRet (-1 : Int32) ftrial _ _ _ _ hK9 dX6_leave_17 hP hD hS
noncomputable def p_X6_swings (f : Mem) (fnow : Mem) (x1 : Int32) (x2 : Int32) : Option (Int32) :=
  Option.bind (p_X0_hasGoose fnow x1) <| fun r5 =>
  if r5 = 0 then
    (some (-1 : Int32))
  else
    (Option.bind (p_X6_isOwner x2) <| fun r12 =>
     if r12 = 0 then
       (some (-1 : Int32))
     else
       (Option.bind (p_X0_setsSwungBy fnow x1 x2) <| fun r24 =>
        some r24))
set_option maxHeartbeats 4000000 in
set_option maxRecDepth 100000 in
theorem c_X6_swings (l : Launch) (G : Gt) (ad : Nat → Nat) (ado : Nat → Nat → Nat) (f : Mem) (fnow : Mem) (x1 : Int32) (x2 : Int32) (r : Int32) (hf : p_X6_swings f fnow x1 x2 = some r) (sz : Nat) : Met l yX6_swings wsX6_swings ({ frames := 5, cells := 0, slots := 0, locals := 106 }) (Pc0 G sz [.ref (ad 0), .int x1, .int x2] (wX6 G ad ado f ++ (wX0 G (ado 1) fnow))) (Qi0 G (va_A (wX6 G ad ado f ++ (wX0 G (ado 1) fnow)) sz) r (wX6 G ad ado f ++ (wX0 G (ado 1) fnow))) 0 0 (va_A (wX6 G ad ado f ++ (wX0 G (ado 1) fnow)) sz) := by
  refine metP (Qf := fun A => Qi0 G A r (wX6 G ad ado f ++ (wX0 G (ado 1) fnow))) cX6_swings 3 (some .int) (by decide) rfl (Nat.le_of_ble_eq_true rfl) ?_
  intro p e s m below meth c A ls hC hr hlocks hin hE hA hsz hP hD hS hl
  generalize hargs : ([.ref (ad 0), .int x1, .int x2] : List Value).toArray = args at hC ⊢
  obtain ⟨hx, hb, hml, hown, hts⟩ := id hC
  have hT : va_K G.1 vwCl (tyL G) s := hE.1
  have hRet : ∀ (r9 : Int32) (H : Heap) (locs : List Loc) (ls : Array Slot) (pc : Nat) (hK9 : r9 = r) (hdg : decode cX6_swings pc = .ok (.ireturn, 1)), va_P G.1 vwCl (wX6 G ad ado f ++ (wX0 G (ado 1) fnow)) H → va_D A (wX6 G ad ado f ++ (wX0 G (ado 1) fnow)) → va_S A s.heap H locs → W p l e ({ frames := 5, cells := 0, slots := 0, locals := 106 }) s m args below meth c H locs 0 0 (MQ below (Qi0 G A r (wX6 G ad ado f ++ (wX0 G (ado 1) fnow))) args s 0 0 A) (F0 m pc ls [.int r9]) := by
    intro r9 H locs ls pc hK9 hdg hP hD hS
    cases hK9
    exact W.iret hx hb hr (fun t ht hW => ⟨⟨r, (), rfl, rfl, by rw [ht]; exact hP, hD⟩, hS.F ht⟩) hS.2.2 hdg hlocks
  generalize MQ below (Qi0 G A r (wX6 G ad ado f ++ (wX0 G (ado 1) fnow))) args s 0 0 A = Q at hRet ⊢
  have lk12 := hts (.fieldLink RX6 12 "FeatherShares" "now" "LFeatherShares$Flock;") (by decide +kernel)
  have inX6 : ∀ w ∈ u_ws RX6 TX6 11, w ∈ wsX6_swings := by decide +kernel
  have hl : lv_has ls 3 [(0, .ref (ad 0)), (1, .int x1), (2, .int x2)] := hl
  have hK0 : r = r := rfl
  obtain ⟨res, hres, hK⟩ : ∃ res, p_X6_swings f fnow x1 x2 = some res ∧ res = r := ⟨_, hf, rfl⟩
  clear hf
  have hf := hres
  clear hres
  unfold p_X6_swings at hf
  refine lv_aload_n hx hb dX6_swings_0 rfl (lv_at hl 0 rfl) ?_
  refine va_get (C := RX6) (T := TX6) (N := 11) (ci := 6) (v := .ref ((ado 1) 0)) hx hb hts inX6 hown hT hP 0 rfl rfl 0 (Nat.le_of_ble_eq_true rfl) lk12 (fun _ h => h) rfl dX6_swings_1 ?_
  refine lv_iload_n hx hb dX6_swings_4 rfl (lv_at hl 1 rfl) ?_
  obtain ⟨r5, hc5, hf⟩ := bd_e hf
  refine cl_z_ro (Wd := (wX6 G ad ado f ++ (wX0 G (ado 1) fnow))) (Wc := (wX0 G (ado 1) fnow)) [4, 5, 6, 7, 8, 9, 10, 11, 12, 13, 14] rfl (va_runVN (As := [.int x1]) (rest := []) hC (c_X0_hasGoose l G (ado 1) fnow x1 r5 hc5 _) ⟨va_cnB 1 hts gX6_swings_X0_hasGoose_n126 rfl rfl rfl (hE.2.2 (RX6, 126, yX0_hasGoose, "FeatherShares") (List.mem_of_getElem? (i := 10) rfl)) (hts (.initialized RX0) (by decide +kernel)) (by decide +kernel) ⟨Nat.le_of_ble_eq_true rfl, Nat.le_of_ble_eq_true rfl⟩, hts (.instanceMethod yX0_hasGoose) (by decide +kernel), hts (.selects RX0 yX0_hasGoose yX0_hasGoose) (by decide +kernel)⟩ ⟨Pc0_blind, va_recv hT hP (q0 := 4) (ci := 0) rfl rfl, fun U hU hW => Pc0_at (Wd := (wX0 G (ado 1) fnow)) hE (hP.subm [4, 5, 6, 7, 8, 9, 10, 11, 12, 13, 14] rfl) (hD.sub [4, 5, 6, 7, 8, 9, 10, 11, 12, 13, 14] (by decide) rfl) hU hW⟩ rfl rfl hl.1 rfl (lv_room (Nat.le_of_ble_eq_true rfl)) dX6_swings_5 ⟨Nat.zero_le _, Nat.zero_le _⟩) hS hA hP hD (fun H locs hn5 hP hD hS => ?_)
  refine lv_if_eq (tgt := 30) hx hb dX6_swings_8 (by decide) (fun hc => ?_) (fun hc => ?_)
  · have hf := if_t hf hc
    refine lv_iconst (v := (-1 : Int32)) hx hb dX6_swings_30 (ic_m1) ?_
    have hK9 := K0_of hf hK
    exact hRet (-1 : Int32) _ _ _ _ hK9 dX6_swings_31 hP hD hS
  · have hf := if_f hf hc
    refine lv_iload_n hx hb dX6_swings_11 rfl (lv_at hl 2 rfl) ?_
    obtain ⟨r12, hc12, hf⟩ := bd_e hf
    refine cl_z_ro (Wd := (wX6 G ad ado f ++ (wX0 G (ado 1) fnow))) (Wc := ([] : va_W)) [] rfl (va_runS (As := [.int x2]) (rest := []) hC (c_X6_isOwner l G x2 r12 hc12 _) (va_cwS 1 hts gX6_swings_X6_isOwner rfl rfl rfl (by decide +kernel) ⟨Nat.le_of_ble_eq_true rfl, Nat.le_of_ble_eq_true rfl⟩) ⟨Pc0_blind, fun U hU hW => Pc0_at (Wd := ([] : va_W)) hE (hP.subm [] rfl) (hD.sub [] (by decide) rfl) hU hW⟩ rfl rfl hl.1 rfl (lv_room (Nat.le_of_ble_eq_true rfl)) dX6_swings_12 ⟨Nat.zero_le _, Nat.zero_le _⟩) hS hA hP hD (fun H locs hn12 hP hD hS => ?_)
    refine lv_if_eq (tgt := 30) hx hb dX6_swings_15 (by decide) (fun hc => ?_) (fun hc => ?_)
    · have hf := if_t hf hc
      refine lv_iconst (v := (-1 : Int32)) hx hb dX6_swings_30 (ic_m1) ?_
      have hK9 := K0_of hf hK
      exact hRet (-1 : Int32) _ _ _ _ hK9 dX6_swings_31 hP hD hS
    · have hf := if_f hf hc
      refine lv_aload_n hx hb dX6_swings_18 rfl (lv_at hl 0 rfl) ?_
      refine va_get (C := RX6) (T := TX6) (N := 11) (ci := 6) (v := .ref ((ado 1) 0)) hx hb hts inX6 hown hT hP 0 rfl rfl 0 (Nat.le_of_ble_eq_true rfl) lk12 (fun _ h => h) rfl dX6_swings_19 ?_
      refine lv_iload_n hx hb dX6_swings_22 rfl (lv_at hl 1 rfl) ?_
      refine lv_iload_n hx hb dX6_swings_23 rfl (lv_at hl 2 rfl) ?_
      obtain ⟨r24, hc24, hf⟩ := bd_e hf
      refine cl_i_ro (Wd := (wX6 G ad ado f ++ (wX0 G (ado 1) fnow))) (Wc := (wX0 G (ado 1) fnow)) [4, 5, 6, 7, 8, 9, 10, 11, 12, 13, 14] rfl (va_runVN (As := [.int x1, .int x2]) (rest := []) hC (c_X0_setsSwungBy l G (ado 1) fnow x1 x2 r24 hc24 _) ⟨va_cnB 2 hts gX6_swings_X0_setsSwungBy_n238 rfl rfl rfl (hE.2.2 (RX6, 238, yX0_setsSwungBy, "FeatherShares") (List.mem_of_getElem? (i := 29) rfl)) (hts (.initialized RX0) (by decide +kernel)) (by decide +kernel) ⟨Nat.le_of_ble_eq_true rfl, Nat.le_of_ble_eq_true rfl⟩, hts (.instanceMethod yX0_setsSwungBy) (by decide +kernel), hts (.selects RX0 yX0_setsSwungBy yX0_setsSwungBy) (by decide +kernel)⟩ ⟨Pc0_blind, va_recv hT hP (q0 := 4) (ci := 0) rfl rfl, fun U hU hW => Pc0_at (Wd := (wX0 G (ado 1) fnow)) hE (hP.subm [4, 5, 6, 7, 8, 9, 10, 11, 12, 13, 14] rfl) (hD.sub [4, 5, 6, 7, 8, 9, 10, 11, 12, 13, 14] (by decide) rfl) hU hW⟩ rfl rfl hl.1 rfl (lv_room (Nat.le_of_ble_eq_true rfl)) dX6_swings_24 ⟨Nat.zero_le _, Nat.zero_le _⟩) hS hA hP hD (fun H locs hP hD hS => ?_)
      refine lv_goto (tgt := 31) hx hb dX6_swings_27 (by decide) ?_
      have hK9 := K0_of hf hK
      exact hRet r24 _ _ _ _ hK9 dX6_swings_31 hP hD hS
noncomputable def p_X6_commonDivisor_L9  (z : Int64 × Int64 × Int32) : Option ((Int64 × Int64 × Int32) ⊕ Int64) :=
  match z with
  | (x4, x6, x8) =>
    if (nI 200) ≤ x8 then
      (some (Sum.inr x4))
    else
      (if (lg_cmp x6 (lN 0)) = 0 then
         (some (Sum.inr x4))
       else
         (gd (nzL x6) <|
          some (Sum.inl (x6, (x4 - x4 / x6 * x6), (x8 + nI 1)))))
noncomputable def p_X6_commonDivisor (x0 : Int64) (x2 : Int64) : Option (Int64) :=
  Option.bind (lp (p_X6_commonDivisor_L9) (x0, x2, (nI 0))) <| fun y4_9 =>
  some y4_9
set_option maxHeartbeats 4000000 in
set_option maxRecDepth 100000 in
theorem c_X6_commonDivisor (l : Launch) (G : Gt)  (x0 : Int64) (x2 : Int64) (r : Int64) (hf : p_X6_commonDivisor x0 x2 = some r) (sz : Nat) : Met l yX6_commonDivisor wsX6_commonDivisor ({ frames := 1, cells := 0, slots := 0, locals := 12 }) (Pc0 G sz [.long x0, .long x2] ([] : va_W)) (Ql0 G (va_A ([] : va_W) sz) r ([] : va_W)) 0 0 (va_A ([] : va_W) sz) := by
  refine metP (Qf := fun A => Ql0 G A r ([] : va_W)) cX6_commonDivisor 11 (some .long) (by decide) rfl (Nat.le_of_ble_eq_true rfl) ?_
  intro p e s m below meth c A ls hC hr hlocks hin hE hA hsz hP hD hS hl
  generalize hargs : ([.long x0, .long x2] : List Value).toArray = args at hC ⊢
  obtain ⟨hx, hb, hml, hown, hts⟩ := id hC
  have hT : va_K G.1 vwCl (tyL G) s := hE.1
  have hRet : ∀ (r9 : Int64) (H : Heap) (locs : List Loc) (ls : Array Slot) (pc : Nat) (hK9 : r9 = r) (hdg : decode cX6_commonDivisor pc = .ok (.lreturn, 1)), va_P G.1 vwCl ([] : va_W) H → va_D A ([] : va_W) → va_S A s.heap H locs → W p l e ({ frames := 1, cells := 0, slots := 0, locals := 12 }) s m args below meth c H locs 0 0 (MQ below (Ql0 G A r ([] : va_W)) args s 0 0 A) (F0 m pc ls [.long r9]) := by
    intro r9 H locs ls pc hK9 hdg hP hD hS
    cases hK9
    exact W.lret hx hb hr (fun t ht hW => ⟨⟨r, (), rfl, rfl, by rw [ht]; exact hP, hD⟩, hS.F ht⟩) hS.2.2 hdg hlocks
  generalize MQ below (Ql0 G A r ([] : va_W)) args s 0 0 A = Q at hRet ⊢
  have hl : lv_has ls 11 [(0, .long x0), (2, .long x2)] := hl
  have hK0 : r = r := rfl
  obtain ⟨res, hres, hK⟩ : ∃ res, p_X6_commonDivisor x0 x2 = some res ∧ res = r := ⟨_, hf, rfl⟩
  clear hf
  have hf := hres
  clear hres
  unfold p_X6_commonDivisor at hf
  refine lv_lload_n hx hb dX6_commonDivisor_0 rfl (lv_at hl 0 rfl) ?_
  refine lv_lstore (lv' := [(4, .long x0), (0, .long x0), (2, .long x2)]) hx hb dX6_commonDivisor_1 hl (by decide) rfl (fun ls hl => ?_)
  refine lv_lload_n hx hb dX6_commonDivisor_3 rfl (lv_at hl 2 rfl) ?_
  refine lv_lstore (lv' := [(6, .long x2), (4, .long x0), (0, .long x0), (2, .long x2)]) hx hb dX6_commonDivisor_4 hl (by decide) rfl (fun ls hl => ?_)
  refine lv_iconst (v := (nI 0)) hx hb dX6_commonDivisor_6 (ic_0) ?_
  refine lv_istore (lv' := [(8, .int (nI 0)), (6, .long x2), (4, .long x0), (0, .long x0), (2, .long x2)]) hx hb dX6_commonDivisor_7 hl (by decide) rfl (fun ls hl => ?_)
  obtain ⟨y4_9, hlp, hf⟩ := bd_e hf
  refine lp_W1 (p_X6_commonDivisor_L9) (fun z => match z with | (x4, x6, x8) => ∀ (H : Heap) (locs : List Loc) (ls : Array Slot), va_P G.1 vwCl ([] : va_W) H → va_D A ([] : va_W) → va_S A s.heap H locs → lv_has ls 11 [(4, .long x4), (6, .long x6), (8, .int x8)] → W p l e ({ frames := 1, cells := 0, slots := 0, locals := 12 }) s m args below meth c H locs 0 0 Q (F0 m 9 ls [])) (fun (y4_9 : Int64) => ∀ (H : Heap) (locs : List Loc) (ls : Array Slot), va_P G.1 vwCl ([] : va_W) H → va_D A ([] : va_W) → va_S A s.heap H locs → lv_has ls 11 [(4, .long y4_9)] → W p l e ({ frames := 1, cells := 0, slots := 0, locals := 12 }) s m args below meth c H locs 0 0 Q (F0 m 45 ls [])) ?_ hlp ?_ _ _ _ hP hD hS (lv_sub hl [2, 1, 0] rfl)
  · clear hlp hf hK hP hD hS hl
    intro K9 hW9 hX9 
    rintro ⟨x4, x6, x8⟩ res hf hK H locs ls hP hD hS hl
    unfold p_X6_commonDivisor_L9 at hf
    dsimp only at hf
    refine lv_iload hx hb dX6_commonDivisor_9 (lv_at hl 2 rfl) ?_
    refine lv_sipush (v := (nI 200)) hx hb dX6_commonDivisor_11 (si_200) ?_
    refine lv_icmp_ge (tgt := 45) hx hb dX6_commonDivisor_14 (by decide) (fun hc => ?_) (fun hc => ?_)
    · have hf := if_t hf hc
      have hK9 := K_of hf hK
      have hK9 := hX9 _ hK9
      exact hK9 _ _ _ hP hD hS (lv_sub hl [0] rfl)
    · have hf := if_f hf hc
      refine lv_lload hx hb dX6_commonDivisor_17 (lv_at hl 1 rfl) ?_
      refine lv_lconst (v := (lN 0)) hx hb dX6_commonDivisor_19 rfl ?_
      refine W.lcmp hx hb dX6_commonDivisor_20 ?_
      refine lv_if_eq (tgt := 45) hx hb dX6_commonDivisor_21 (by decide) (fun hc => ?_) (fun hc => ?_)
      · have hf := if_t hf hc
        have hK9 := K_of hf hK
        have hK9 := hX9 _ hK9
        exact hK9 _ _ _ hP hD hS (lv_sub hl [0] rfl)
      · have hf := if_f hf hc
        refine lv_lload hx hb dX6_commonDivisor_24 (lv_at hl 0 rfl) ?_
        refine lv_lload hx hb dX6_commonDivisor_26 (lv_at hl 1 rfl) ?_
        obtain ⟨hg, hf⟩ := gd_e hf
        refine lv_lrem hx hb dX6_commonDivisor_28 (nzL_e hg) ?_
        refine lv_lstore (lv' := [(9, .long (x4 - x4 / x6 * x6)), (4, .long x4), (6, .long x6), (8, .int x8)]) hx hb dX6_commonDivisor_29 hl (by decide) rfl (fun ls hl => ?_)
        refine lv_lload hx hb dX6_commonDivisor_31 (lv_at hl 2 rfl) ?_
        refine lv_lstore (lv' := [(4, .long x6), (9, .long (x4 - x4 / x6 * x6)), (6, .long x6), (8, .int x8)]) hx hb dX6_commonDivisor_33 hl (by decide) rfl (fun ls hl => ?_)
        refine lv_lload hx hb dX6_commonDivisor_35 (lv_at hl 1 rfl) ?_
        refine lv_lstore (lv' := [(6, .long (x4 - x4 / x6 * x6)), (4, .long x6), (9, .long (x4 - x4 / x6 * x6)), (8, .int x8)]) hx hb dX6_commonDivisor_37 hl (by decide) rfl (fun ls hl => ?_)
        refine lv_iinc (v := (x8 + nI 1)) (lv' := [(8, .int (x8 + nI 1)), (6, .long (x4 - x4 / x6 * x6)), (4, .long x6), (9, .long (x4 - x4 / x6 * x6))]) hx hb dX6_commonDivisor_39 hl (k := 3) rfl (ii_x 1 _) (by decide) rfl (fun ls hl => ?_)
        refine lv_goto (tgt := 9) hx hb dX6_commonDivisor_42 (by decide) ?_
        have hK9 := K_of hf hK
        have hK9 := hW9 _ hK9
        exact hK9 _ _ _ hP hD hS (lv_sub hl [2, 1, 0] rfl)
  · try dsimp only at hf
    show ∀ (H : Heap) (locs : List Loc) (ls : Array Slot), va_P G.1 vwCl ([] : va_W) H → va_D A ([] : va_W) → va_S A s.heap H locs → lv_has ls 11 [(4, .long y4_9)] → W p l e ({ frames := 1, cells := 0, slots := 0, locals := 12 }) s m args below meth c H locs 0 0 Q (F0 m 45 ls [])
    intro H locs ls hP hD hS hl
    refine lv_lload hx hb dX6_commonDivisor_45 (lv_at hl 0 rfl) ?_
    have hK9 := K0_of hf hK
    exact hRet y4_9 _ _ _ _ hK9 dX6_commonDivisor_47 hP hD hS
noncomputable def p_X6_partOfFraction_B21 (x5 : Int64) (s0 : Int64) : Option (Int64) :=
  gd (nzL x5) <|
  some (s0 / x5)
noncomputable def p_X6_partOfFraction (x0 : Int64) (x2 : Int64) (x4 : Int32) : Option (Int64) :=
  Option.bind (p_X6_commonDivisor x0 x2) <| fun r3 =>
  if x4 = 0 then
    (p_X6_partOfFraction_B21 (if (lN 1) < r3 then r3 else (lN 1)) x0)
  else
    (p_X6_partOfFraction_B21 (if (lN 1) < r3 then r3 else (lN 1)) x2)
set_option maxHeartbeats 4000000 in
set_option maxRecDepth 100000 in
theorem c_X6_partOfFraction (l : Launch) (G : Gt)  (x0 : Int64) (x2 : Int64) (x4 : Int32) (r : Int64) (hf : p_X6_partOfFraction x0 x2 x4 = some r) (sz : Nat) : Met l yX6_partOfFraction wsX6_partOfFraction ({ frames := 2, cells := 0, slots := 0, locals := 42 }) (Pc0 G sz [.long x0, .long x2, .int x4] ([] : va_W)) (Ql0 G (va_A ([] : va_W) sz) r ([] : va_W)) 0 0 (va_A ([] : va_W) sz) := by
  refine metP (Qf := fun A => Ql0 G A r ([] : va_W)) cX6_partOfFraction 7 (some .long) (by decide) rfl (Nat.le_of_ble_eq_true rfl) ?_
  intro p e s m below meth c A ls hC hr hlocks hin hE hA hsz hP hD hS hl
  generalize hargs : ([.long x0, .long x2, .int x4] : List Value).toArray = args at hC ⊢
  obtain ⟨hx, hb, hml, hown, hts⟩ := id hC
  have hT : va_K G.1 vwCl (tyL G) s := hE.1
  have hRet : ∀ (r9 : Int64) (H : Heap) (locs : List Loc) (ls : Array Slot) (pc : Nat) (hK9 : r9 = r) (hdg : decode cX6_partOfFraction pc = .ok (.lreturn, 1)), va_P G.1 vwCl ([] : va_W) H → va_D A ([] : va_W) → va_S A s.heap H locs → W p l e ({ frames := 2, cells := 0, slots := 0, locals := 42 }) s m args below meth c H locs 0 0 (MQ below (Ql0 G A r ([] : va_W)) args s 0 0 A) (F0 m pc ls [.long r9]) := by
    intro r9 H locs ls pc hK9 hdg hP hD hS
    cases hK9
    exact W.lret hx hb hr (fun t ht hW => ⟨⟨r, (), rfl, rfl, by rw [ht]; exact hP, hD⟩, hS.F ht⟩) hS.2.2 hdg hlocks
  generalize MQ below (Ql0 G A r ([] : va_W)) args s 0 0 A = Q at hRet ⊢
  have hl : lv_has ls 7 [(0, .long x0), (2, .long x2), (4, .int x4)] := hl
  have hK0 : r = r := rfl
  have hB21 : ∀ (x5 : Int64) (s0 : Int64) (res : Int64) (hf : p_X6_partOfFraction_B21 x5 s0 = some res) (hK : res = r), ∀ (H : Heap) (locs : List Loc) (ls : Array Slot), va_P G.1 vwCl ([] : va_W) H → va_D A ([] : va_W) → va_S A s.heap H locs → lv_has ls 7 [(5, .long x5)] → W p l e ({ frames := 2, cells := 0, slots := 0, locals := 42 }) s m args below meth c H locs 0 0 Q (F0 m 21 ls [.long s0]) := by
    intro x5 s0 res hf hK H locs ls hP hD hS hl
    unfold p_X6_partOfFraction_B21 at hf
    refine lv_lload hx hb dX6_partOfFraction_21 (lv_at hl 0 rfl) ?_
    obtain ⟨hg, hf⟩ := gd_e hf
    refine lv_ldiv hx hb dX6_partOfFraction_23 (nzL_e hg) ?_
    have hK9 := K0_of hf hK
    exact hRet (s0 / x5) _ _ _ _ hK9 dX6_partOfFraction_24 hP hD hS
  obtain ⟨res, hres, hK⟩ : ∃ res, p_X6_partOfFraction x0 x2 x4 = some res ∧ res = r := ⟨_, hf, rfl⟩
  clear hf
  have hf := hres
  clear hres
  unfold p_X6_partOfFraction at hf
  refine lv_lconst (v := (lN 1)) hx hb dX6_partOfFraction_0 rfl ?_
  refine lv_lload_n hx hb dX6_partOfFraction_1 rfl (lv_at hl 0 rfl) ?_
  refine lv_lload_n hx hb dX6_partOfFraction_2 rfl (lv_at hl 1 rfl) ?_
  obtain ⟨r3, hc3, hf⟩ := bd_e hf
  refine cl_l_same (Wd := ([] : va_W)) (W' := ([] : va_W)) (va_runS (As := [.long x0, .long x2]) (rest := [.long (lN 1)]) hC (c_X6_commonDivisor l G x0 x2 r3 hc3 _) (va_cwS 2 hts gX6_partOfFraction_X6_commonDivisor rfl rfl rfl (by decide +kernel) ⟨Nat.le_of_ble_eq_true rfl, Nat.le_of_ble_eq_true rfl⟩) ⟨Pc0_blind, fun U hU hW => Pc0_at hE hP hD hU hW⟩ rfl rfl hl.1 rfl (lv_room (Nat.le_of_ble_eq_true rfl)) dX6_partOfFraction_3 ⟨Nat.zero_le _, Nat.zero_le _⟩) hS hA hD (fun H locs hP hD hS => ?_)
  refine va_mmax_long hx hb (hml.trans hl.1.symm) hown (hts (.methodLink RX6 325 Lib.MathLoose.max_long.x) (by decide +kernel)) (hts (.static Lib.MathLoose.max_long.x) (by decide +kernel)) (hts (.initialized "java/lang/Math") (by decide +kernel)) (hts (.code Lib.MathLoose.max_long.x Lib.MathLoose.max_long.code 4 (some .long)) (by decide +kernel)) (Nat.le_of_ble_eq_true rfl) (Nat.le_of_ble_eq_true rfl) (Nat.zero_le _) (Nat.zero_le _) dX6_partOfFraction_6 ?_
  refine lv_lstore (lv' := [(5, .long (if (lN 1) < r3 then r3 else (lN 1))), (0, .long x0), (2, .long x2), (4, .int x4)]) hx hb dX6_partOfFraction_9 hl (by decide) rfl (fun ls hl => ?_)
  refine lv_iload hx hb dX6_partOfFraction_11 (lv_at hl 3 rfl) ?_
  refine lv_if_ne (tgt := 20) hx hb dX6_partOfFraction_13 (by decide) (fun hc => ?_) (fun hc => ?_)
  · have hf := if_f hf hc
    refine lv_lload_n hx hb dX6_partOfFraction_20 rfl (lv_at hl 2 rfl) ?_
    exact hB21 (if (lN 1) < r3 then r3 else (lN 1)) x2 _ hf hK _ _ _ hP hD hS (lv_sub hl [0] rfl)
  · have hf := if_t hf hc
    refine lv_lload_n hx hb dX6_partOfFraction_16 rfl (lv_at hl 1 rfl) ?_
    refine lv_goto (tgt := 21) hx hb dX6_partOfFraction_17 (by decide) ?_
    exact hB21 (if (lN 1) < r3 then r3 else (lN 1)) x0 _ hf hK _ _ _ hP hD hS (lv_sub hl [0] rfl)
noncomputable def p_X6_power_B27 (f : Mem) (fnow : Mem) : Option (Int64) :=
  some (-1 : Int64)
noncomputable def p_X6_power_L37 (f : Mem) (fnow : Mem) (x1 : Int32) (x2 : Int32) (x3 : Int32) (z : Int32 × Int32) : Option ((Int32 × Int32) ⊕ Int32) :=
  match z with
  | (x4, x5) =>
    if (nI 5) ≤ x5 then
      (some (Sum.inr x4))
    else
      (Option.bind (p_X0_setsSwungBy fnow x1 x5) <| fun r52 =>
       some (Sum.inl ((x4 + r52), (x5 + nI 1))))
noncomputable def p_X6_power (f : Mem) (fnow : Mem) (x1 : Int32) (x2 : Int32) (x3 : Int32) : Option (Int64) :=
  Option.bind (p_X0_hasGoose fnow x1) <| fun r5 =>
  if r5 = 0 then
    (p_X6_power_B27 f fnow)
  else
    (Option.bind (p_X6_isOwner x2) <| fun r12 =>
     if r12 = 0 then
       (p_X6_power_B27 f fnow)
     else
       (Option.bind (p_X6_isWithin x3 (nI 0) (nI 1)) <| fun r21 =>
        if r21 = 0 then
          (p_X6_power_B27 f fnow)
        else
          (Option.bind (lp (p_X6_power_L37 f fnow x1 x2 x3) ((nI 0), (nI 0))) <| fun y4_37 =>
           Option.bind (p_X0_setsSwungBy fnow x1 x2) <| fun r70 =>
           Option.bind (p_X6_partOfFraction ((r70).toInt64) ((if (nI 1) < y4_37 then y4_37 else (nI 1)).toInt64) x3) <| fun r82 =>
           some r82)))
set_option maxHeartbeats 4000000 in
set_option maxRecDepth 100000 in
theorem c_X6_power (l : Launch) (G : Gt) (ad : Nat → Nat) (ado : Nat → Nat → Nat) (f : Mem) (fnow : Mem) (x1 : Int32) (x2 : Int32) (x3 : Int32) (r : Int64) (hf : p_X6_power f fnow x1 x2 x3 = some r) (sz : Nat) : Met l yX6_power wsX6_power ({ frames := 5, cells := 0, slots := 0, locals := 106 }) (Pc0 G sz [.ref (ad 0), .int x1, .int x2, .int x3] (wX6 G ad ado f ++ (wX0 G (ado 1) fnow))) (Ql0 G (va_A (wX6 G ad ado f ++ (wX0 G (ado 1) fnow)) sz) r (wX6 G ad ado f ++ (wX0 G (ado 1) fnow))) 0 0 (va_A (wX6 G ad ado f ++ (wX0 G (ado 1) fnow)) sz) := by
  refine metP (Qf := fun A => Ql0 G A r (wX6 G ad ado f ++ (wX0 G (ado 1) fnow))) cX6_power 6 (some .long) (by decide) rfl (Nat.le_of_ble_eq_true rfl) ?_
  intro p e s m below meth c A ls hC hr hlocks hin hE hA hsz hP hD hS hl
  generalize hargs : ([.ref (ad 0), .int x1, .int x2, .int x3] : List Value).toArray = args at hC ⊢
  obtain ⟨hx, hb, hml, hown, hts⟩ := id hC
  have hT : va_K G.1 vwCl (tyL G) s := hE.1
  have hRet : ∀ (r9 : Int64) (H : Heap) (locs : List Loc) (ls : Array Slot) (pc : Nat) (hK9 : r9 = r) (hdg : decode cX6_power pc = .ok (.lreturn, 1)), va_P G.1 vwCl (wX6 G ad ado f ++ (wX0 G (ado 1) fnow)) H → va_D A (wX6 G ad ado f ++ (wX0 G (ado 1) fnow)) → va_S A s.heap H locs → W p l e ({ frames := 5, cells := 0, slots := 0, locals := 106 }) s m args below meth c H locs 0 0 (MQ below (Ql0 G A r (wX6 G ad ado f ++ (wX0 G (ado 1) fnow))) args s 0 0 A) (F0 m pc ls [.long r9]) := by
    intro r9 H locs ls pc hK9 hdg hP hD hS
    cases hK9
    exact W.lret hx hb hr (fun t ht hW => ⟨⟨r, (), rfl, rfl, by rw [ht]; exact hP, hD⟩, hS.F ht⟩) hS.2.2 hdg hlocks
  generalize MQ below (Ql0 G A r (wX6 G ad ado f ++ (wX0 G (ado 1) fnow))) args s 0 0 A = Q at hRet ⊢
  have lk12 := hts (.fieldLink RX6 12 "FeatherShares" "now" "LFeatherShares$Flock;") (by decide +kernel)
  have inX6 : ∀ w ∈ u_ws RX6 TX6 11, w ∈ wsX6_power := by decide +kernel
  have hl : lv_has ls 6 [(0, .ref (ad 0)), (1, .int x1), (2, .int x2), (3, .int x3)] := hl
  have hK0 : r = r := rfl
  have hB27 : ∀ (f : Mem) (fnow : Mem) (res : Int64) (hf : p_X6_power_B27 f fnow = some res) (hK : res = r), ∀ (H : Heap) (locs : List Loc) (ls : Array Slot), va_P G.1 vwCl (wX6 G ad ado f ++ (wX0 G (ado 1) fnow)) H → va_D A (wX6 G ad ado f ++ (wX0 G (ado 1) fnow)) → va_S A s.heap H locs → lv_has ls 6 [] → W p l e ({ frames := 5, cells := 0, slots := 0, locals := 106 }) s m args below meth c H locs 0 0 Q (F0 m 27 ls []) := by
    intro f fnow res hf hK H locs ls hP hD hS hl
    unfold p_X6_power_B27 at hf
    refine W.ldc2 (v := (-1 : Int64)) hx hb hown (hts (.constantLong RX6 241 (-1 : Int64)) (by decide +kernel)) rfl dX6_power_27 ?_
    refine W.eq (g2 := F0 m 30 ls [.long (-1 : Int64)]) rfl ?_
    have hK9 := K0_of hf hK
    exact hRet (-1 : Int64) _ _ _ _ hK9 dX6_power_30 hP hD hS
  obtain ⟨res, hres, hK⟩ : ∃ res, p_X6_power f fnow x1 x2 x3 = some res ∧ res = r := ⟨_, hf, rfl⟩
  clear hf
  have hf := hres
  clear hres
  unfold p_X6_power at hf
  refine lv_aload_n hx hb dX6_power_0 rfl (lv_at hl 0 rfl) ?_
  refine va_get (C := RX6) (T := TX6) (N := 11) (ci := 6) (v := .ref ((ado 1) 0)) hx hb hts inX6 hown hT hP 0 rfl rfl 0 (Nat.le_of_ble_eq_true rfl) lk12 (fun _ h => h) rfl dX6_power_1 ?_
  refine lv_iload_n hx hb dX6_power_4 rfl (lv_at hl 1 rfl) ?_
  obtain ⟨r5, hc5, hf⟩ := bd_e hf
  refine cl_z_ro (Wd := (wX6 G ad ado f ++ (wX0 G (ado 1) fnow))) (Wc := (wX0 G (ado 1) fnow)) [4, 5, 6, 7, 8, 9, 10, 11, 12, 13, 14] rfl (va_runVN (As := [.int x1]) (rest := []) hC (c_X0_hasGoose l G (ado 1) fnow x1 r5 hc5 _) ⟨va_cnB 1 hts gX6_power_X0_hasGoose_n126 rfl rfl rfl (hE.2.2 (RX6, 126, yX0_hasGoose, "FeatherShares") (List.mem_of_getElem? (i := 10) rfl)) (hts (.initialized RX0) (by decide +kernel)) (by decide +kernel) ⟨Nat.le_of_ble_eq_true rfl, Nat.le_of_ble_eq_true rfl⟩, hts (.instanceMethod yX0_hasGoose) (by decide +kernel), hts (.selects RX0 yX0_hasGoose yX0_hasGoose) (by decide +kernel)⟩ ⟨Pc0_blind, va_recv hT hP (q0 := 4) (ci := 0) rfl rfl, fun U hU hW => Pc0_at (Wd := (wX0 G (ado 1) fnow)) hE (hP.subm [4, 5, 6, 7, 8, 9, 10, 11, 12, 13, 14] rfl) (hD.sub [4, 5, 6, 7, 8, 9, 10, 11, 12, 13, 14] (by decide) rfl) hU hW⟩ rfl rfl hl.1 rfl (lv_room (Nat.le_of_ble_eq_true rfl)) dX6_power_5 ⟨Nat.zero_le _, Nat.zero_le _⟩) hS hA hP hD (fun H locs hn5 hP hD hS => ?_)
  refine lv_if_eq (tgt := 27) hx hb dX6_power_8 (by decide) (fun hc => ?_) (fun hc => ?_)
  · have hf := if_t hf hc
    exact hB27 f fnow _ hf hK _ _ _ hP hD hS (lv_sub hl [] rfl)
  · have hf := if_f hf hc
    refine lv_iload_n hx hb dX6_power_11 rfl (lv_at hl 2 rfl) ?_
    obtain ⟨r12, hc12, hf⟩ := bd_e hf
    refine cl_z_ro (Wd := (wX6 G ad ado f ++ (wX0 G (ado 1) fnow))) (Wc := ([] : va_W)) [] rfl (va_runS (As := [.int x2]) (rest := []) hC (c_X6_isOwner l G x2 r12 hc12 _) (va_cwS 1 hts gX6_power_X6_isOwner rfl rfl rfl (by decide +kernel) ⟨Nat.le_of_ble_eq_true rfl, Nat.le_of_ble_eq_true rfl⟩) ⟨Pc0_blind, fun U hU hW => Pc0_at (Wd := ([] : va_W)) hE (hP.subm [] rfl) (hD.sub [] (by decide) rfl) hU hW⟩ rfl rfl hl.1 rfl (lv_room (Nat.le_of_ble_eq_true rfl)) dX6_power_12 ⟨Nat.zero_le _, Nat.zero_le _⟩) hS hA hP hD (fun H locs hn12 hP hD hS => ?_)
    refine lv_if_eq (tgt := 27) hx hb dX6_power_15 (by decide) (fun hc => ?_) (fun hc => ?_)
    · have hf := if_t hf hc
      exact hB27 f fnow _ hf hK _ _ _ hP hD hS (lv_sub hl [] rfl)
    · have hf := if_f hf hc
      refine lv_iload_n hx hb dX6_power_18 rfl (lv_at hl 3 rfl) ?_
      refine lv_iconst (v := (nI 0)) hx hb dX6_power_19 (ic_0) ?_
      refine lv_iconst (v := (nI 1)) hx hb dX6_power_20 (ic_1) ?_
      obtain ⟨r21, hc21, hf⟩ := bd_e hf
      refine cl_z_ro (Wd := (wX6 G ad ado f ++ (wX0 G (ado 1) fnow))) (Wc := ([] : va_W)) [] rfl (va_runS (As := [.int x3, .int (nI 0), .int (nI 1)]) (rest := []) hC (c_X6_isWithin l G x3 (nI 0) (nI 1) r21 hc21 _) (va_cwS 3 hts gX6_power_X6_isWithin rfl rfl rfl (by decide +kernel) ⟨Nat.le_of_ble_eq_true rfl, Nat.le_of_ble_eq_true rfl⟩) ⟨Pc0_blind, fun U hU hW => Pc0_at (Wd := ([] : va_W)) hE (hP.subm [] rfl) (hD.sub [] (by decide) rfl) hU hW⟩ rfl rfl hl.1 rfl (lv_room (Nat.le_of_ble_eq_true rfl)) dX6_power_21 ⟨Nat.zero_le _, Nat.zero_le _⟩) hS hA hP hD (fun H locs hn21 hP hD hS => ?_)
      refine lv_if_ne (tgt := 31) hx hb dX6_power_24 (by decide) (fun hc => ?_) (fun hc => ?_)
      · have hf := if_f hf hc
        refine lv_iconst (v := (nI 0)) hx hb dX6_power_31 (ic_0) ?_
        refine lv_istore (lv' := [(4, .int (nI 0)), (0, .ref (ad 0)), (1, .int x1), (2, .int x2), (3, .int x3)]) hx hb dX6_power_32 hl (by decide) rfl (fun ls hl => ?_)
        refine lv_iconst (v := (nI 0)) hx hb dX6_power_34 (ic_0) ?_
        refine lv_istore (lv' := [(5, .int (nI 0)), (4, .int (nI 0)), (0, .ref (ad 0)), (1, .int x1), (2, .int x2), (3, .int x3)]) hx hb dX6_power_35 hl (by decide) rfl (fun ls hl => ?_)
        obtain ⟨y4_37, hlp, hf⟩ := bd_e hf
        refine lp_W1 (p_X6_power_L37 f fnow x1 x2 x3) (fun z => match z with | (x4, x5) => ∀ (H : Heap) (locs : List Loc) (ls : Array Slot), va_P G.1 vwCl (wX6 G ad ado f ++ (wX0 G (ado 1) fnow)) H → va_D A (wX6 G ad ado f ++ (wX0 G (ado 1) fnow)) → va_S A s.heap H locs → lv_has ls 6 [(0, .ref (ad 0)), (1, .int x1), (2, .int x2), (3, .int x3), (4, .int x4), (5, .int x5)] → W p l e ({ frames := 5, cells := 0, slots := 0, locals := 106 }) s m args below meth c H locs 0 0 Q (F0 m 37 ls [])) (fun (y4_37 : Int32) => ∀ (H : Heap) (locs : List Loc) (ls : Array Slot), va_P G.1 vwCl (wX6 G ad ado f ++ (wX0 G (ado 1) fnow)) H → va_D A (wX6 G ad ado f ++ (wX0 G (ado 1) fnow)) → va_S A s.heap H locs → lv_has ls 6 [(0, .ref (ad 0)), (1, .int x1), (2, .int x2), (3, .int x3), (4, .int y4_37)] → W p l e ({ frames := 5, cells := 0, slots := 0, locals := 106 }) s m args below meth c H locs 0 0 Q (F0 m 64 ls [])) ?_ hlp ?_ _ _ _ hP hD hS (lv_sub hl [2, 3, 4, 5, 1, 0] rfl)
        · clear hlp hf hK hP hD hS hl
          intro K37 hW37 hX37 
          rintro ⟨x4, x5⟩ res hf hK H locs ls hP hD hS hl
          unfold p_X6_power_L37 at hf
          dsimp only at hf
          refine lv_iload hx hb dX6_power_37 (lv_at hl 5 rfl) ?_
          refine lv_iconst (v := (nI 5)) hx hb dX6_power_39 (ic_5) ?_
          refine lv_icmp_ge (tgt := 64) hx hb dX6_power_40 (by decide) (fun hc => ?_) (fun hc => ?_)
          · have hf := if_t hf hc
            have hK9 := K_of hf hK
            have hK9 := hX37 _ hK9
            exact hK9 _ _ _ hP hD hS (lv_sub hl [0, 1, 2, 3, 4] rfl)
          · have hf := if_f hf hc
            refine lv_iload hx hb dX6_power_43 (lv_at hl 4 rfl) ?_
            refine lv_aload_n hx hb dX6_power_45 rfl (lv_at hl 0 rfl) ?_
            refine va_get (C := RX6) (T := TX6) (N := 11) (ci := 6) (v := .ref ((ado 1) 0)) hx hb hts inX6 hown hT hP 0 rfl rfl 0 (Nat.le_of_ble_eq_true rfl) lk12 (fun _ h => h) rfl dX6_power_46 ?_
            refine lv_iload_n hx hb dX6_power_49 rfl (lv_at hl 1 rfl) ?_
            refine lv_iload hx hb dX6_power_50 (lv_at hl 5 rfl) ?_
            obtain ⟨r52, hc52, hf⟩ := bd_e hf
            refine cl_i_ro (Wd := (wX6 G ad ado f ++ (wX0 G (ado 1) fnow))) (Wc := (wX0 G (ado 1) fnow)) [4, 5, 6, 7, 8, 9, 10, 11, 12, 13, 14] rfl (va_runVN (As := [.int x1, .int x5]) (rest := [.int x4]) hC (c_X0_setsSwungBy l G (ado 1) fnow x1 x5 r52 hc52 _) ⟨va_cnB 2 hts gX6_power_X0_setsSwungBy_n238 rfl rfl rfl (hE.2.2 (RX6, 238, yX0_setsSwungBy, "FeatherShares") (List.mem_of_getElem? (i := 29) rfl)) (hts (.initialized RX0) (by decide +kernel)) (by decide +kernel) ⟨Nat.le_of_ble_eq_true rfl, Nat.le_of_ble_eq_true rfl⟩, hts (.instanceMethod yX0_setsSwungBy) (by decide +kernel), hts (.selects RX0 yX0_setsSwungBy yX0_setsSwungBy) (by decide +kernel)⟩ ⟨Pc0_blind, va_recv hT hP (q0 := 4) (ci := 0) rfl rfl, fun U hU hW => Pc0_at (Wd := (wX0 G (ado 1) fnow)) hE (hP.subm [4, 5, 6, 7, 8, 9, 10, 11, 12, 13, 14] rfl) (hD.sub [4, 5, 6, 7, 8, 9, 10, 11, 12, 13, 14] (by decide) rfl) hU hW⟩ rfl rfl hl.1 rfl (lv_room (Nat.le_of_ble_eq_true rfl)) dX6_power_52 ⟨Nat.zero_le _, Nat.zero_le _⟩) hS hA hP hD (fun H locs hP hD hS => ?_)
            refine lv_iadd hx hb dX6_power_55 ?_
            refine lv_istore (lv' := [(4, .int (x4 + r52)), (0, .ref (ad 0)), (1, .int x1), (2, .int x2), (3, .int x3), (5, .int x5)]) hx hb dX6_power_56 hl (by decide) rfl (fun ls hl => ?_)
            refine lv_iinc (v := (x5 + nI 1)) (lv' := [(5, .int (x5 + nI 1)), (4, .int (x4 + r52)), (0, .ref (ad 0)), (1, .int x1), (2, .int x2), (3, .int x3)]) hx hb dX6_power_58 hl (k := 5) rfl (ii_x 1 _) (by decide) rfl (fun ls hl => ?_)
            refine lv_goto (tgt := 37) hx hb dX6_power_61 (by decide) ?_
            have hK9 := K_of hf hK
            have hK9 := hW37 _ hK9
            exact hK9 _ _ _ hP hD hS (lv_sub hl [2, 3, 4, 5, 1, 0] rfl)
        · try dsimp only at hf
          show ∀ (H : Heap) (locs : List Loc) (ls : Array Slot), va_P G.1 vwCl (wX6 G ad ado f ++ (wX0 G (ado 1) fnow)) H → va_D A (wX6 G ad ado f ++ (wX0 G (ado 1) fnow)) → va_S A s.heap H locs → lv_has ls 6 [(0, .ref (ad 0)), (1, .int x1), (2, .int x2), (3, .int x3), (4, .int y4_37)] → W p l e ({ frames := 5, cells := 0, slots := 0, locals := 106 }) s m args below meth c H locs 0 0 Q (F0 m 64 ls [])
          intro H locs ls hP hD hS hl
          refine lv_aload_n hx hb dX6_power_64 rfl (lv_at hl 0 rfl) ?_
          refine va_get (C := RX6) (T := TX6) (N := 11) (ci := 6) (v := .ref ((ado 1) 0)) hx hb hts inX6 hown hT hP 0 rfl rfl 0 (Nat.le_of_ble_eq_true rfl) lk12 (fun _ h => h) rfl dX6_power_65 ?_
          refine lv_iload_n hx hb dX6_power_68 rfl (lv_at hl 1 rfl) ?_
          refine lv_iload_n hx hb dX6_power_69 rfl (lv_at hl 2 rfl) ?_
          obtain ⟨r70, hc70, hf⟩ := bd_e hf
          refine cl_i_ro (Wd := (wX6 G ad ado f ++ (wX0 G (ado 1) fnow))) (Wc := (wX0 G (ado 1) fnow)) [4, 5, 6, 7, 8, 9, 10, 11, 12, 13, 14] rfl (va_runVN (As := [.int x1, .int x2]) (rest := []) hC (c_X0_setsSwungBy l G (ado 1) fnow x1 x2 r70 hc70 _) ⟨va_cnB 2 hts gX6_power_X0_setsSwungBy_n238 rfl rfl rfl (hE.2.2 (RX6, 238, yX0_setsSwungBy, "FeatherShares") (List.mem_of_getElem? (i := 29) rfl)) (hts (.initialized RX0) (by decide +kernel)) (by decide +kernel) ⟨Nat.le_of_ble_eq_true rfl, Nat.le_of_ble_eq_true rfl⟩, hts (.instanceMethod yX0_setsSwungBy) (by decide +kernel), hts (.selects RX0 yX0_setsSwungBy yX0_setsSwungBy) (by decide +kernel)⟩ ⟨Pc0_blind, va_recv hT hP (q0 := 4) (ci := 0) rfl rfl, fun U hU hW => Pc0_at (Wd := (wX0 G (ado 1) fnow)) hE (hP.subm [4, 5, 6, 7, 8, 9, 10, 11, 12, 13, 14] rfl) (hD.sub [4, 5, 6, 7, 8, 9, 10, 11, 12, 13, 14] (by decide) rfl) hU hW⟩ rfl rfl hl.1 rfl (lv_room (Nat.le_of_ble_eq_true rfl)) dX6_power_70 ⟨Nat.zero_le _, Nat.zero_le _⟩) hS hA hP hD (fun H locs hP hD hS => ?_)
          refine lv_i2l (v := ((r70).toInt64)) hx hb dX6_power_73 rfl ?_
          refine lv_iconst (v := (nI 1)) hx hb dX6_power_74 (ic_1) ?_
          refine lv_iload hx hb dX6_power_75 (lv_at hl 4 rfl) ?_
          refine va_mmax hx hb (hml.trans hl.1.symm) hown (hts (.methodLink RX6 243 Lib.Math.max.name) (by decide +kernel)) (hts (.static Lib.Math.max.name) (by decide +kernel)) (hts (.initialized "java/lang/Math") (by decide +kernel)) (hts (.code Lib.Math.max.name Lib.Math.max.code 2 (some .int)) (by decide +kernel)) (Nat.le_of_ble_eq_true rfl) (Nat.le_of_ble_eq_true rfl) (Nat.zero_le _) (Nat.zero_le _) dX6_power_77 ?_
          refine lv_i2l (v := ((if (nI 1) < y4_37 then y4_37 else (nI 1)).toInt64)) hx hb dX6_power_80 rfl ?_
          refine lv_iload_n hx hb dX6_power_81 rfl (lv_at hl 3 rfl) ?_
          obtain ⟨r82, hc82, hf⟩ := bd_e hf
          refine cl_l_ro (Wd := (wX6 G ad ado f ++ (wX0 G (ado 1) fnow))) (Wc := ([] : va_W)) [] rfl (va_runS (As := [.long ((r70).toInt64), .long ((if (nI 1) < y4_37 then y4_37 else (nI 1)).toInt64), .int x3]) (rest := []) hC (c_X6_partOfFraction l G ((r70).toInt64) ((if (nI 1) < y4_37 then y4_37 else (nI 1)).toInt64) x3 r82 hc82 _) (va_cwS 3 hts gX6_power_X6_partOfFraction rfl rfl rfl (by decide +kernel) ⟨Nat.le_of_ble_eq_true rfl, Nat.le_of_ble_eq_true rfl⟩) ⟨Pc0_blind, fun U hU hW => Pc0_at (Wd := ([] : va_W)) hE (hP.subm [] rfl) (hD.sub [] (by decide) rfl) hU hW⟩ rfl rfl hl.1 rfl (lv_room (Nat.le_of_ble_eq_true rfl)) dX6_power_82 ⟨Nat.zero_le _, Nat.zero_le _⟩) hS hA hP hD (fun H locs hP hD hS => ?_)
          have hK9 := K0_of hf hK
          exact hRet r82 _ _ _ _ hK9 dX6_power_85 hP hD hS
      · have hf := if_t hf hc
        exact hB27 f fnow _ hf hK _ _ _ hP hD hS (lv_sub hl [] rfl)
noncomputable def p_X6_reign (f : Mem) (fnow : Mem) (x1 : Int32) (x2 : Int32) : Option (Int32) :=
  Option.bind (p_X0_hasGoose fnow x1) <| fun r5 =>
  if r5 = 0 then
    (some (-1 : Int32))
  else
    (Option.bind (p_X6_isOwner x2) <| fun r12 =>
     if r12 = 0 then
       (some (-1 : Int32))
     else
       (Option.bind (p_X0_feathersOf fnow x1) <| fun r25 =>
        Option.bind (p_X0_held fnow x1 x2) <| fun r34 =>
        if (nI 99) < ((r25 - r34) + (nI 1)) then
          (some (-4 : Int32))
        else
          (some ((r25 - r34) + (nI 1)))))
set_option maxHeartbeats 4000000 in
set_option maxRecDepth 100000 in
theorem c_X6_reign (l : Launch) (G : Gt) (ad : Nat → Nat) (ado : Nat → Nat → Nat) (f : Mem) (fnow : Mem) (x1 : Int32) (x2 : Int32) (r : Int32) (hf : p_X6_reign f fnow x1 x2 = some r) (sz : Nat) : Met l yX6_reign wsX6_reign ({ frames := 3, cells := 0, slots := 0, locals := 57 }) (Pc0 G sz [.ref (ad 0), .int x1, .int x2] (wX6 G ad ado f ++ (wX0 G (ado 1) fnow))) (Qi0 G (va_A (wX6 G ad ado f ++ (wX0 G (ado 1) fnow)) sz) r (wX6 G ad ado f ++ (wX0 G (ado 1) fnow))) 0 0 (va_A (wX6 G ad ado f ++ (wX0 G (ado 1) fnow)) sz) := by
  refine metP (Qf := fun A => Qi0 G A r (wX6 G ad ado f ++ (wX0 G (ado 1) fnow))) cX6_reign 4 (some .int) (by decide) rfl (Nat.le_of_ble_eq_true rfl) ?_
  intro p e s m below meth c A ls hC hr hlocks hin hE hA hsz hP hD hS hl
  generalize hargs : ([.ref (ad 0), .int x1, .int x2] : List Value).toArray = args at hC ⊢
  obtain ⟨hx, hb, hml, hown, hts⟩ := id hC
  have hT : va_K G.1 vwCl (tyL G) s := hE.1
  have hRet : ∀ (r9 : Int32) (H : Heap) (locs : List Loc) (ls : Array Slot) (pc : Nat) (hK9 : r9 = r) (hdg : decode cX6_reign pc = .ok (.ireturn, 1)), va_P G.1 vwCl (wX6 G ad ado f ++ (wX0 G (ado 1) fnow)) H → va_D A (wX6 G ad ado f ++ (wX0 G (ado 1) fnow)) → va_S A s.heap H locs → W p l e ({ frames := 3, cells := 0, slots := 0, locals := 57 }) s m args below meth c H locs 0 0 (MQ below (Qi0 G A r (wX6 G ad ado f ++ (wX0 G (ado 1) fnow))) args s 0 0 A) (F0 m pc ls [.int r9]) := by
    intro r9 H locs ls pc hK9 hdg hP hD hS
    cases hK9
    exact W.iret hx hb hr (fun t ht hW => ⟨⟨r, (), rfl, rfl, by rw [ht]; exact hP, hD⟩, hS.F ht⟩) hS.2.2 hdg hlocks
  generalize MQ below (Qi0 G A r (wX6 G ad ado f ++ (wX0 G (ado 1) fnow))) args s 0 0 A = Q at hRet ⊢
  have lk12 := hts (.fieldLink RX6 12 "FeatherShares" "now" "LFeatherShares$Flock;") (by decide +kernel)
  have inX6 : ∀ w ∈ u_ws RX6 TX6 11, w ∈ wsX6_reign := by decide +kernel
  have hl : lv_has ls 4 [(0, .ref (ad 0)), (1, .int x1), (2, .int x2)] := hl
  have hK0 : r = r := rfl
  obtain ⟨res, hres, hK⟩ : ∃ res, p_X6_reign f fnow x1 x2 = some res ∧ res = r := ⟨_, hf, rfl⟩
  clear hf
  have hf := hres
  clear hres
  unfold p_X6_reign at hf
  refine lv_aload_n hx hb dX6_reign_0 rfl (lv_at hl 0 rfl) ?_
  refine va_get (C := RX6) (T := TX6) (N := 11) (ci := 6) (v := .ref ((ado 1) 0)) hx hb hts inX6 hown hT hP 0 rfl rfl 0 (Nat.le_of_ble_eq_true rfl) lk12 (fun _ h => h) rfl dX6_reign_1 ?_
  refine lv_iload_n hx hb dX6_reign_4 rfl (lv_at hl 1 rfl) ?_
  obtain ⟨r5, hc5, hf⟩ := bd_e hf
  refine cl_z_ro (Wd := (wX6 G ad ado f ++ (wX0 G (ado 1) fnow))) (Wc := (wX0 G (ado 1) fnow)) [4, 5, 6, 7, 8, 9, 10, 11, 12, 13, 14] rfl (va_runVN (As := [.int x1]) (rest := []) hC (c_X0_hasGoose l G (ado 1) fnow x1 r5 hc5 _) ⟨va_cnB 1 hts gX6_reign_X0_hasGoose_n126 rfl rfl rfl (hE.2.2 (RX6, 126, yX0_hasGoose, "FeatherShares") (List.mem_of_getElem? (i := 10) rfl)) (hts (.initialized RX0) (by decide +kernel)) (by decide +kernel) ⟨Nat.le_of_ble_eq_true rfl, Nat.le_of_ble_eq_true rfl⟩, hts (.instanceMethod yX0_hasGoose) (by decide +kernel), hts (.selects RX0 yX0_hasGoose yX0_hasGoose) (by decide +kernel)⟩ ⟨Pc0_blind, va_recv hT hP (q0 := 4) (ci := 0) rfl rfl, fun U hU hW => Pc0_at (Wd := (wX0 G (ado 1) fnow)) hE (hP.subm [4, 5, 6, 7, 8, 9, 10, 11, 12, 13, 14] rfl) (hD.sub [4, 5, 6, 7, 8, 9, 10, 11, 12, 13, 14] (by decide) rfl) hU hW⟩ rfl rfl hl.1 rfl (lv_room (Nat.le_of_ble_eq_true rfl)) dX6_reign_5 ⟨Nat.zero_le _, Nat.zero_le _⟩) hS hA hP hD (fun H locs hn5 hP hD hS => ?_)
  refine lv_if_eq (tgt := 18) hx hb dX6_reign_8 (by decide) (fun hc => ?_) (fun hc => ?_)
  · have hf := if_t hf hc
    refine lv_iconst (v := (-1 : Int32)) hx hb dX6_reign_18 (ic_m1) ?_
    have hK9 := K0_of hf hK
    exact hRet (-1 : Int32) _ _ _ _ hK9 dX6_reign_19 hP hD hS
  · have hf := if_f hf hc
    refine lv_iload_n hx hb dX6_reign_11 rfl (lv_at hl 2 rfl) ?_
    obtain ⟨r12, hc12, hf⟩ := bd_e hf
    refine cl_z_ro (Wd := (wX6 G ad ado f ++ (wX0 G (ado 1) fnow))) (Wc := ([] : va_W)) [] rfl (va_runS (As := [.int x2]) (rest := []) hC (c_X6_isOwner l G x2 r12 hc12 _) (va_cwS 1 hts gX6_reign_X6_isOwner rfl rfl rfl (by decide +kernel) ⟨Nat.le_of_ble_eq_true rfl, Nat.le_of_ble_eq_true rfl⟩) ⟨Pc0_blind, fun U hU hW => Pc0_at (Wd := ([] : va_W)) hE (hP.subm [] rfl) (hD.sub [] (by decide) rfl) hU hW⟩ rfl rfl hl.1 rfl (lv_room (Nat.le_of_ble_eq_true rfl)) dX6_reign_12 ⟨Nat.zero_le _, Nat.zero_le _⟩) hS hA hP hD (fun H locs hn12 hP hD hS => ?_)
    refine lv_if_ne (tgt := 20) hx hb dX6_reign_15 (by decide) (fun hc => ?_) (fun hc => ?_)
    · have hf := if_f hf hc
      refine lv_aload_n hx hb dX6_reign_20 rfl (lv_at hl 0 rfl) ?_
      refine va_get (C := RX6) (T := TX6) (N := 11) (ci := 6) (v := .ref ((ado 1) 0)) hx hb hts inX6 hown hT hP 0 rfl rfl 0 (Nat.le_of_ble_eq_true rfl) lk12 (fun _ h => h) rfl dX6_reign_21 ?_
      refine lv_iload_n hx hb dX6_reign_24 rfl (lv_at hl 1 rfl) ?_
      obtain ⟨r25, hc25, hf⟩ := bd_e hf
      refine cl_i_ro (Wd := (wX6 G ad ado f ++ (wX0 G (ado 1) fnow))) (Wc := (wX0 G (ado 1) fnow)) [4, 5, 6, 7, 8, 9, 10, 11, 12, 13, 14] rfl (va_runVN (As := [.int x1]) (rest := []) hC (c_X0_feathersOf l G (ado 1) fnow x1 r25 hc25 _) ⟨va_cnB 1 hts gX6_reign_X0_feathersOf_n138 rfl rfl rfl (hE.2.2 (RX6, 138, yX0_feathersOf, "FeatherShares") (List.mem_of_getElem? (i := 11) rfl)) (hts (.initialized RX0) (by decide +kernel)) (by decide +kernel) ⟨Nat.le_of_ble_eq_true rfl, Nat.le_of_ble_eq_true rfl⟩, hts (.instanceMethod yX0_feathersOf) (by decide +kernel), hts (.selects RX0 yX0_feathersOf yX0_feathersOf) (by decide +kernel)⟩ ⟨Pc0_blind, va_recv hT hP (q0 := 4) (ci := 0) rfl rfl, fun U hU hW => Pc0_at (Wd := (wX0 G (ado 1) fnow)) hE (hP.subm [4, 5, 6, 7, 8, 9, 10, 11, 12, 13, 14] rfl) (hD.sub [4, 5, 6, 7, 8, 9, 10, 11, 12, 13, 14] (by decide) rfl) hU hW⟩ rfl rfl hl.1 rfl (lv_room (Nat.le_of_ble_eq_true rfl)) dX6_reign_25 ⟨Nat.zero_le _, Nat.zero_le _⟩) hS hA hP hD (fun H locs hP hD hS => ?_)
      refine lv_aload_n hx hb dX6_reign_28 rfl (lv_at hl 0 rfl) ?_
      refine va_get (C := RX6) (T := TX6) (N := 11) (ci := 6) (v := .ref ((ado 1) 0)) hx hb hts inX6 hown hT hP 0 rfl rfl 0 (Nat.le_of_ble_eq_true rfl) lk12 (fun _ h => h) rfl dX6_reign_29 ?_
      refine lv_iload_n hx hb dX6_reign_32 rfl (lv_at hl 1 rfl) ?_
      refine lv_iload_n hx hb dX6_reign_33 rfl (lv_at hl 2 rfl) ?_
      obtain ⟨r34, hc34, hf⟩ := bd_e hf
      refine cl_i_ro (Wd := (wX6 G ad ado f ++ (wX0 G (ado 1) fnow))) (Wc := (wX0 G (ado 1) fnow)) [4, 5, 6, 7, 8, 9, 10, 11, 12, 13, 14] rfl (va_runVN (As := [.int x1, .int x2]) (rest := [.int r25]) hC (c_X0_held l G (ado 1) fnow x1 x2 r34 hc34 _) ⟨va_cnB 2 hts gX6_reign_X0_held_n152 rfl rfl rfl (hE.2.2 (RX6, 152, yX0_held, "FeatherShares") (List.mem_of_getElem? (i := 14) rfl)) (hts (.initialized RX0) (by decide +kernel)) (by decide +kernel) ⟨Nat.le_of_ble_eq_true rfl, Nat.le_of_ble_eq_true rfl⟩, hts (.instanceMethod yX0_held) (by decide +kernel), hts (.selects RX0 yX0_held yX0_held) (by decide +kernel)⟩ ⟨Pc0_blind, va_recv hT hP (q0 := 4) (ci := 0) rfl rfl, fun U hU hW => Pc0_at (Wd := (wX0 G (ado 1) fnow)) hE (hP.subm [4, 5, 6, 7, 8, 9, 10, 11, 12, 13, 14] rfl) (hD.sub [4, 5, 6, 7, 8, 9, 10, 11, 12, 13, 14] (by decide) rfl) hU hW⟩ rfl rfl hl.1 rfl (lv_room (Nat.le_of_ble_eq_true rfl)) dX6_reign_34 ⟨Nat.zero_le _, Nat.zero_le _⟩) hS hA hP hD (fun H locs hP hD hS => ?_)
      refine lv_isub hx hb dX6_reign_37 ?_
      refine lv_iconst (v := (nI 1)) hx hb dX6_reign_38 (ic_1) ?_
      refine lv_iadd hx hb dX6_reign_39 ?_
      refine lv_istore_n (lv' := [(3, .int ((r25 - r34) + (nI 1))), (0, .ref (ad 0)), (1, .int x1), (2, .int x2)]) hx hb dX6_reign_40 rfl hl (by decide) rfl (fun ls hl => ?_)
      refine lv_iload_n hx hb dX6_reign_41 rfl (lv_at hl 0 rfl) ?_
      refine lv_bipush (v := (nI 99)) hx hb dX6_reign_42 (bi_99) ?_
      refine lv_icmp_gt (tgt := 51) hx hb dX6_reign_44 (by decide) (fun hc => ?_) (fun hc => ?_)
      · have hf := if_t hf hc
        refine lv_bipush (v := (-4 : Int32)) hx hb dX6_reign_51 (bi_m4) ?_
        have hK9 := K0_of hf hK
        exact hRet (-4 : Int32) _ _ _ _ hK9 dX6_reign_53 hP hD hS
      · have hf := if_f hf hc
        refine lv_iload_n hx hb dX6_reign_47 rfl (lv_at hl 0 rfl) ?_
        refine lv_goto (tgt := 53) hx hb dX6_reign_48 (by decide) ?_
        have hK9 := K0_of hf hK
        exact hRet ((r25 - r34) + (nI 1)) _ _ _ _ hK9 dX6_reign_53 hP hD hS
    · have hf := if_t hf hc
      refine lv_iconst (v := (-1 : Int32)) hx hb dX6_reign_18 (ic_m1) ?_
      have hK9 := K0_of hf hK
      exact hRet (-1 : Int32) _ _ _ _ hK9 dX6_reign_19 hP hD hS
noncomputable def p_X6_areOdds (x0 : Int32) (x1 : Int32) : Option (Int32) :=
  Option.bind (p_X6_isWithin x0 (nI 0) (nI 10)) <| fun r4 =>
  if r4 = 0 then
    (some (nI 0))
  else
    (Option.bind (p_X6_isWithin x1 (nI 0) (nI 8)) <| fun r14 =>
     if r14 = 0 then
       (some (nI 0))
     else
       (some (nI 1)))
set_option maxHeartbeats 4000000 in
set_option maxRecDepth 100000 in
theorem c_X6_areOdds (l : Launch) (G : Gt)  (x0 : Int32) (x1 : Int32) (r : Int32) (hf : p_X6_areOdds x0 x1 = some r) (sz : Nat) : Met l yX6_areOdds wsX6_areOdds ({ frames := 2, cells := 0, slots := 0, locals := 34 }) (Pc0 G sz [.int x0, .int x1] ([] : va_W)) (Qz0 G (va_A ([] : va_W) sz) r ([] : va_W)) 0 0 (va_A ([] : va_W) sz) := by
  refine metP (Qf := fun A => Qz0 G A r ([] : va_W)) cX6_areOdds 2 (some .boolean) (by decide) rfl (Nat.le_of_ble_eq_true rfl) ?_
  intro p e s m below meth c A ls hC hr hlocks hin hE hA hsz hP hD hS hl
  generalize hargs : ([.int x0, .int x1] : List Value).toArray = args at hC ⊢
  obtain ⟨hx, hb, hml, hown, hts⟩ := id hC
  have hT : va_K G.1 vwCl (tyL G) s := hE.1
  have hRet : ∀ (r9 : Int32) (H : Heap) (locs : List Loc) (ls : Array Slot) (pc : Nat) (hK9 : r9 = r) (hn9 : narrow .boolean (.int r9) = .int r9) (hdg : decode cX6_areOdds pc = .ok (.ireturn, 1)), va_P G.1 vwCl ([] : va_W) H → va_D A ([] : va_W) → va_S A s.heap H locs → W p l e ({ frames := 2, cells := 0, slots := 0, locals := 34 }) s m args below meth c H locs 0 0 (MQ below (Qz0 G A r ([] : va_W)) args s 0 0 A) (F0 m pc ls [.int r9]) := by
    intro r9 H locs ls pc hK9 hn9 hdg hP hD hS
    cases hK9
    exact W.zret hx hb hr hn9 (fun t ht hW => ⟨⟨r, (), rfl, ⟨rfl, hn9⟩, by rw [ht]; exact hP, hD⟩, hS.F ht⟩) hS.2.2 hdg hlocks
  generalize MQ below (Qz0 G A r ([] : va_W)) args s 0 0 A = Q at hRet ⊢
  have hl : lv_has ls 2 [(0, .int x0), (1, .int x1)] := hl
  have hK0 : r = r := rfl
  obtain ⟨res, hres, hK⟩ : ∃ res, p_X6_areOdds x0 x1 = some res ∧ res = r := ⟨_, hf, rfl⟩
  clear hf
  have hf := hres
  clear hres
  unfold p_X6_areOdds at hf
  refine lv_iload_n hx hb dX6_areOdds_0 rfl (lv_at hl 0 rfl) ?_
  refine lv_iconst (v := (nI 0)) hx hb dX6_areOdds_1 (ic_0) ?_
  refine lv_bipush (v := (nI 10)) hx hb dX6_areOdds_2 (bi_10) ?_
  obtain ⟨r4, hc4, hf⟩ := bd_e hf
  refine cl_z_same (Wd := ([] : va_W)) (W' := ([] : va_W)) (va_runS (As := [.int x0, .int (nI 0), .int (nI 10)]) (rest := []) hC (c_X6_isWithin l G x0 (nI 0) (nI 10) r4 hc4 _) (va_cwS 3 hts gX6_areOdds_X6_isWithin rfl rfl rfl (by decide +kernel) ⟨Nat.le_of_ble_eq_true rfl, Nat.le_of_ble_eq_true rfl⟩) ⟨Pc0_blind, fun U hU hW => Pc0_at hE hP hD hU hW⟩ rfl rfl hl.1 rfl (lv_room (Nat.le_of_ble_eq_true rfl)) dX6_areOdds_4 ⟨Nat.zero_le _, Nat.zero_le _⟩) hS hA hD (fun H locs hn4 hP hD hS => ?_)
  refine lv_if_eq (tgt := 24) hx hb dX6_areOdds_7 (by decide) (fun hc => ?_) (fun hc => ?_)
  · have hf := if_t hf hc
    refine lv_iconst (v := (nI 0)) hx hb dX6_areOdds_24 (ic_0) ?_
    have hK9 := K0_of hf hK
    exact hRet (nI 0) _ _ _ _ hK9 rfl dX6_areOdds_25 hP hD hS
  · have hf := if_f hf hc
    refine lv_iload_n hx hb dX6_areOdds_10 rfl (lv_at hl 1 rfl) ?_
    refine lv_iconst (v := (nI 0)) hx hb dX6_areOdds_11 (ic_0) ?_
    refine lv_bipush (v := (nI 8)) hx hb dX6_areOdds_12 (bi_8) ?_
    obtain ⟨r14, hc14, hf⟩ := bd_e hf
    refine cl_z_same (Wd := ([] : va_W)) (W' := ([] : va_W)) (va_runS (As := [.int x1, .int (nI 0), .int (nI 8)]) (rest := []) hC (c_X6_isWithin l G x1 (nI 0) (nI 8) r14 hc14 _) (va_cwS 3 hts gX6_areOdds_X6_isWithin rfl rfl rfl (by decide +kernel) ⟨Nat.le_of_ble_eq_true rfl, Nat.le_of_ble_eq_true rfl⟩) ⟨Pc0_blind, fun U hU hW => Pc0_at hE hP hD hU hW⟩ rfl rfl hl.1 rfl (lv_room (Nat.le_of_ble_eq_true rfl)) dX6_areOdds_14 ⟨Nat.zero_le _, Nat.zero_le _⟩) hS hA hD (fun H locs hn14 hP hD hS => ?_)
    refine lv_if_eq (tgt := 24) hx hb dX6_areOdds_17 (by decide) (fun hc => ?_) (fun hc => ?_)
    · have hf := if_t hf hc
      refine lv_iconst (v := (nI 0)) hx hb dX6_areOdds_24 (ic_0) ?_
      have hK9 := K0_of hf hK
      exact hRet (nI 0) _ _ _ _ hK9 rfl dX6_areOdds_25 hP hD hS
    · have hf := if_f hf hc
      refine lv_iconst (v := (nI 1)) hx hb dX6_areOdds_20 (ic_1) ?_
      refine lv_goto (tgt := 25) hx hb dX6_areOdds_21 (by decide) ?_
      have hK9 := K0_of hf hK
      exact hRet (nI 1) _ _ _ _ hK9 rfl dX6_areOdds_25 hP hD hS
noncomputable def p_X6_raised_L5 (x0 : Int32) (x1 : Int32) (z : Int64 × Int32) : Option ((Int64 × Int32) ⊕ Int64) :=
  match z with
  | (x2, x4) =>
    if x1 ≤ x4 then
      (some (Sum.inr x2))
    else
      (some (Sum.inl ((x2 * ((x0).toInt64)), (x4 + nI 1))))
noncomputable def p_X6_raised (x0 : Int32) (x1 : Int32) : Option (Int64) :=
  Option.bind (lp (p_X6_raised_L5 x0 x1) ((lN 1), (nI 0))) <| fun y2_5 =>
  some y2_5
set_option maxHeartbeats 4000000 in
set_option maxRecDepth 100000 in
theorem c_X6_raised (l : Launch) (G : Gt)  (x0 : Int32) (x1 : Int32) (r : Int64) (hf : p_X6_raised x0 x1 = some r) (sz : Nat) : Met l yX6_raised wsX6_raised ({ frames := 1, cells := 0, slots := 0, locals := 12 }) (Pc0 G sz [.int x0, .int x1] ([] : va_W)) (Ql0 G (va_A ([] : va_W) sz) r ([] : va_W)) 0 0 (va_A ([] : va_W) sz) := by
  refine metP (Qf := fun A => Ql0 G A r ([] : va_W)) cX6_raised 5 (some .long) (by decide) rfl (Nat.le_of_ble_eq_true rfl) ?_
  intro p e s m below meth c A ls hC hr hlocks hin hE hA hsz hP hD hS hl
  generalize hargs : ([.int x0, .int x1] : List Value).toArray = args at hC ⊢
  obtain ⟨hx, hb, hml, hown, hts⟩ := id hC
  have hT : va_K G.1 vwCl (tyL G) s := hE.1
  have hRet : ∀ (r9 : Int64) (H : Heap) (locs : List Loc) (ls : Array Slot) (pc : Nat) (hK9 : r9 = r) (hdg : decode cX6_raised pc = .ok (.lreturn, 1)), va_P G.1 vwCl ([] : va_W) H → va_D A ([] : va_W) → va_S A s.heap H locs → W p l e ({ frames := 1, cells := 0, slots := 0, locals := 12 }) s m args below meth c H locs 0 0 (MQ below (Ql0 G A r ([] : va_W)) args s 0 0 A) (F0 m pc ls [.long r9]) := by
    intro r9 H locs ls pc hK9 hdg hP hD hS
    cases hK9
    exact W.lret hx hb hr (fun t ht hW => ⟨⟨r, (), rfl, rfl, by rw [ht]; exact hP, hD⟩, hS.F ht⟩) hS.2.2 hdg hlocks
  generalize MQ below (Ql0 G A r ([] : va_W)) args s 0 0 A = Q at hRet ⊢
  have hl : lv_has ls 5 [(0, .int x0), (1, .int x1)] := hl
  have hK0 : r = r := rfl
  obtain ⟨res, hres, hK⟩ : ∃ res, p_X6_raised x0 x1 = some res ∧ res = r := ⟨_, hf, rfl⟩
  clear hf
  have hf := hres
  clear hres
  unfold p_X6_raised at hf
  refine lv_lconst (v := (lN 1)) hx hb dX6_raised_0 rfl ?_
  refine lv_lstore_n (lv' := [(2, .long (lN 1)), (0, .int x0), (1, .int x1)]) hx hb dX6_raised_1 rfl hl (by decide) rfl (fun ls hl => ?_)
  refine lv_iconst (v := (nI 0)) hx hb dX6_raised_2 (ic_0) ?_
  refine lv_istore (lv' := [(4, .int (nI 0)), (2, .long (lN 1)), (0, .int x0), (1, .int x1)]) hx hb dX6_raised_3 hl (by decide) rfl (fun ls hl => ?_)
  obtain ⟨y2_5, hlp, hf⟩ := bd_e hf
  refine lp_W1 (p_X6_raised_L5 x0 x1) (fun z => match z with | (x2, x4) => ∀ (H : Heap) (locs : List Loc) (ls : Array Slot), va_P G.1 vwCl ([] : va_W) H → va_D A ([] : va_W) → va_S A s.heap H locs → lv_has ls 5 [(0, .int x0), (1, .int x1), (2, .long x2), (4, .int x4)] → W p l e ({ frames := 1, cells := 0, slots := 0, locals := 12 }) s m args below meth c H locs 0 0 Q (F0 m 5 ls [])) (fun (y2_5 : Int64) => ∀ (H : Heap) (locs : List Loc) (ls : Array Slot), va_P G.1 vwCl ([] : va_W) H → va_D A ([] : va_W) → va_S A s.heap H locs → lv_has ls 5 [(2, .long y2_5)] → W p l e ({ frames := 1, cells := 0, slots := 0, locals := 12 }) s m args below meth c H locs 0 0 Q (F0 m 22 ls [])) ?_ hlp ?_ _ _ _ hP hD hS (lv_sub hl [2, 3, 1, 0] rfl)
  · clear hlp hf hK hP hD hS hl
    intro K5 hW5 hX5 
    rintro ⟨x2, x4⟩ res hf hK H locs ls hP hD hS hl
    unfold p_X6_raised_L5 at hf
    dsimp only at hf
    refine lv_iload hx hb dX6_raised_5 (lv_at hl 3 rfl) ?_
    refine lv_iload_n hx hb dX6_raised_7 rfl (lv_at hl 1 rfl) ?_
    refine lv_icmp_ge (tgt := 22) hx hb dX6_raised_8 (by decide) (fun hc => ?_) (fun hc => ?_)
    · have hf := if_t hf hc
      have hK9 := K_of hf hK
      have hK9 := hX5 _ hK9
      exact hK9 _ _ _ hP hD hS (lv_sub hl [2] rfl)
    · have hf := if_f hf hc
      refine lv_lload_n hx hb dX6_raised_11 rfl (lv_at hl 2 rfl) ?_
      refine lv_iload_n hx hb dX6_raised_12 rfl (lv_at hl 0 rfl) ?_
      refine lv_i2l (v := ((x0).toInt64)) hx hb dX6_raised_13 rfl ?_
      refine lv_lmul hx hb dX6_raised_14 ?_
      refine lv_lstore_n (lv' := [(2, .long (x2 * ((x0).toInt64))), (0, .int x0), (1, .int x1), (4, .int x4)]) hx hb dX6_raised_15 rfl hl (by decide) rfl (fun ls hl => ?_)
      refine lv_iinc (v := (x4 + nI 1)) (lv' := [(4, .int (x4 + nI 1)), (2, .long (x2 * ((x0).toInt64))), (0, .int x0), (1, .int x1)]) hx hb dX6_raised_16 hl (k := 3) rfl (ii_x 1 _) (by decide) rfl (fun ls hl => ?_)
      refine lv_goto (tgt := 5) hx hb dX6_raised_19 (by decide) ?_
      have hK9 := K_of hf hK
      have hK9 := hW5 _ hK9
      exact hK9 _ _ _ hP hD hS (lv_sub hl [2, 3, 1, 0] rfl)
  · try dsimp only at hf
    show ∀ (H : Heap) (locs : List Loc) (ls : Array Slot), va_P G.1 vwCl ([] : va_W) H → va_D A ([] : va_W) → va_S A s.heap H locs → lv_has ls 5 [(2, .long y2_5)] → W p l e ({ frames := 1, cells := 0, slots := 0, locals := 12 }) s m args below meth c H locs 0 0 Q (F0 m 22 ls [])
    intro H locs ls hP hD hS hl
    refine lv_lload_n hx hb dX6_raised_22 rfl (lv_at hl 0 rfl) ?_
    have hK9 := K0_of hf hK
    exact hRet y2_5 _ _ _ _ hK9 dX6_raised_23 hP hD hS
noncomputable def p_X6_waysToMoult_L5 (x0 : Int32) (x1 : Int32) (x2 : Int32) (z : Int64 × Int32) : Option ((Int64 × Int32) ⊕ Int64) :=
  match z with
  | (x3, x5) =>
    if x2 < x5 then
      (some (Sum.inr x3))
    else
      (gd (nzL ((x5).toInt64)) <|
       some (Sum.inl (((x3 * (((x1 - x2) + x5).toInt64)) / ((x5).toInt64)), (x5 + nI 1))))
noncomputable def p_X6_waysToMoult (x0 : Int32) (x1 : Int32) (x2 : Int32) : Option (Int64) :=
  Option.bind (lp (p_X6_waysToMoult_L5 x0 x1 x2) ((lN 1), (nI 1))) <| fun y3_5 =>
  Option.bind (p_X6_raised x0 x2) <| fun r34 =>
  Option.bind (p_X6_raised ((nI 10) - x0) (x1 - x2)) <| fun r45 =>
  some ((y3_5 * r34) * r45)
set_option maxHeartbeats 4000000 in
set_option maxRecDepth 100000 in
theorem c_X6_waysToMoult (l : Launch) (G : Gt)  (x0 : Int32) (x1 : Int32) (x2 : Int32) (r : Int64) (hf : p_X6_waysToMoult x0 x1 x2 = some r) (sz : Nat) : Met l yX6_waysToMoult wsX6_waysToMoult ({ frames := 2, cells := 0, slots := 0, locals := 36 }) (Pc0 G sz [.int x0, .int x1, .int x2] ([] : va_W)) (Ql0 G (va_A ([] : va_W) sz) r ([] : va_W)) 0 0 (va_A ([] : va_W) sz) := by
  refine metP (Qf := fun A => Ql0 G A r ([] : va_W)) cX6_waysToMoult 6 (some .long) (by decide) rfl (Nat.le_of_ble_eq_true rfl) ?_
  intro p e s m below meth c A ls hC hr hlocks hin hE hA hsz hP hD hS hl
  generalize hargs : ([.int x0, .int x1, .int x2] : List Value).toArray = args at hC ⊢
  obtain ⟨hx, hb, hml, hown, hts⟩ := id hC
  have hT : va_K G.1 vwCl (tyL G) s := hE.1
  have hRet : ∀ (r9 : Int64) (H : Heap) (locs : List Loc) (ls : Array Slot) (pc : Nat) (hK9 : r9 = r) (hdg : decode cX6_waysToMoult pc = .ok (.lreturn, 1)), va_P G.1 vwCl ([] : va_W) H → va_D A ([] : va_W) → va_S A s.heap H locs → W p l e ({ frames := 2, cells := 0, slots := 0, locals := 36 }) s m args below meth c H locs 0 0 (MQ below (Ql0 G A r ([] : va_W)) args s 0 0 A) (F0 m pc ls [.long r9]) := by
    intro r9 H locs ls pc hK9 hdg hP hD hS
    cases hK9
    exact W.lret hx hb hr (fun t ht hW => ⟨⟨r, (), rfl, rfl, by rw [ht]; exact hP, hD⟩, hS.F ht⟩) hS.2.2 hdg hlocks
  generalize MQ below (Ql0 G A r ([] : va_W)) args s 0 0 A = Q at hRet ⊢
  have hl : lv_has ls 6 [(0, .int x0), (1, .int x1), (2, .int x2)] := hl
  have hK0 : r = r := rfl
  obtain ⟨res, hres, hK⟩ : ∃ res, p_X6_waysToMoult x0 x1 x2 = some res ∧ res = r := ⟨_, hf, rfl⟩
  clear hf
  have hf := hres
  clear hres
  unfold p_X6_waysToMoult at hf
  refine lv_lconst (v := (lN 1)) hx hb dX6_waysToMoult_0 rfl ?_
  refine lv_lstore_n (lv' := [(3, .long (lN 1)), (0, .int x0), (1, .int x1), (2, .int x2)]) hx hb dX6_waysToMoult_1 rfl hl (by decide) rfl (fun ls hl => ?_)
  refine lv_iconst (v := (nI 1)) hx hb dX6_waysToMoult_2 (ic_1) ?_
  refine lv_istore (lv' := [(5, .int (nI 1)), (3, .long (lN 1)), (0, .int x0), (1, .int x1), (2, .int x2)]) hx hb dX6_waysToMoult_3 hl (by decide) rfl (fun ls hl => ?_)
  obtain ⟨y3_5, hlp, hf⟩ := bd_e hf
  refine lp_W1 (p_X6_waysToMoult_L5 x0 x1 x2) (fun z => match z with | (x3, x5) => ∀ (H : Heap) (locs : List Loc) (ls : Array Slot), va_P G.1 vwCl ([] : va_W) H → va_D A ([] : va_W) → va_S A s.heap H locs → lv_has ls 6 [(0, .int x0), (1, .int x1), (2, .int x2), (3, .long x3), (5, .int x5)] → W p l e ({ frames := 2, cells := 0, slots := 0, locals := 36 }) s m args below meth c H locs 0 0 Q (F0 m 5 ls [])) (fun (y3_5 : Int64) => ∀ (H : Heap) (locs : List Loc) (ls : Array Slot), va_P G.1 vwCl ([] : va_W) H → va_D A ([] : va_W) → va_S A s.heap H locs → lv_has ls 6 [(0, .int x0), (1, .int x1), (2, .int x2), (3, .long y3_5)] → W p l e ({ frames := 2, cells := 0, slots := 0, locals := 36 }) s m args below meth c H locs 0 0 Q (F0 m 31 ls [])) ?_ hlp ?_ _ _ _ hP hD hS (lv_sub hl [2, 3, 4, 1, 0] rfl)
  · clear hlp hf hK hP hD hS hl
    intro K5 hW5 hX5 
    rintro ⟨x3, x5⟩ res hf hK H locs ls hP hD hS hl
    unfold p_X6_waysToMoult_L5 at hf
    dsimp only at hf
    refine lv_iload hx hb dX6_waysToMoult_5 (lv_at hl 4 rfl) ?_
    refine lv_iload_n hx hb dX6_waysToMoult_7 rfl (lv_at hl 2 rfl) ?_
    refine lv_icmp_gt (tgt := 31) hx hb dX6_waysToMoult_8 (by decide) (fun hc => ?_) (fun hc => ?_)
    · have hf := if_t hf hc
      have hK9 := K_of hf hK
      have hK9 := hX5 _ hK9
      exact hK9 _ _ _ hP hD hS (lv_sub hl [0, 1, 2, 3] rfl)
    · have hf := if_f hf hc
      refine lv_lload_n hx hb dX6_waysToMoult_11 rfl (lv_at hl 3 rfl) ?_
      refine lv_iload_n hx hb dX6_waysToMoult_12 rfl (lv_at hl 1 rfl) ?_
      refine lv_iload_n hx hb dX6_waysToMoult_13 rfl (lv_at hl 2 rfl) ?_
      refine lv_isub hx hb dX6_waysToMoult_14 ?_
      refine lv_iload hx hb dX6_waysToMoult_15 (lv_at hl 4 rfl) ?_
      refine lv_iadd hx hb dX6_waysToMoult_17 ?_
      refine lv_i2l (v := (((x1 - x2) + x5).toInt64)) hx hb dX6_waysToMoult_18 rfl ?_
      refine lv_lmul hx hb dX6_waysToMoult_19 ?_
      refine lv_iload hx hb dX6_waysToMoult_20 (lv_at hl 4 rfl) ?_
      refine lv_i2l (v := ((x5).toInt64)) hx hb dX6_waysToMoult_22 rfl ?_
      obtain ⟨hg, hf⟩ := gd_e hf
      refine lv_ldiv hx hb dX6_waysToMoult_23 (nzL_e hg) ?_
      refine lv_lstore_n (lv' := [(3, .long ((x3 * (((x1 - x2) + x5).toInt64)) / ((x5).toInt64))), (0, .int x0), (1, .int x1), (2, .int x2), (5, .int x5)]) hx hb dX6_waysToMoult_24 rfl hl (by decide) rfl (fun ls hl => ?_)
      refine lv_iinc (v := (x5 + nI 1)) (lv' := [(5, .int (x5 + nI 1)), (3, .long ((x3 * (((x1 - x2) + x5).toInt64)) / ((x5).toInt64))), (0, .int x0), (1, .int x1), (2, .int x2)]) hx hb dX6_waysToMoult_25 hl (k := 4) rfl (ii_x 1 _) (by decide) rfl (fun ls hl => ?_)
      refine lv_goto (tgt := 5) hx hb dX6_waysToMoult_28 (by decide) ?_
      have hK9 := K_of hf hK
      have hK9 := hW5 _ hK9
      exact hK9 _ _ _ hP hD hS (lv_sub hl [2, 3, 4, 1, 0] rfl)
  · try dsimp only at hf
    show ∀ (H : Heap) (locs : List Loc) (ls : Array Slot), va_P G.1 vwCl ([] : va_W) H → va_D A ([] : va_W) → va_S A s.heap H locs → lv_has ls 6 [(0, .int x0), (1, .int x1), (2, .int x2), (3, .long y3_5)] → W p l e ({ frames := 2, cells := 0, slots := 0, locals := 36 }) s m args below meth c H locs 0 0 Q (F0 m 31 ls [])
    intro H locs ls hP hD hS hl
    refine lv_lload_n hx hb dX6_waysToMoult_31 rfl (lv_at hl 3 rfl) ?_
    refine lv_iload_n hx hb dX6_waysToMoult_32 rfl (lv_at hl 0 rfl) ?_
    refine lv_iload_n hx hb dX6_waysToMoult_33 rfl (lv_at hl 2 rfl) ?_
    obtain ⟨r34, hc34, hf⟩ := bd_e hf
    refine cl_l_same (Wd := ([] : va_W)) (W' := ([] : va_W)) (va_runS (As := [.int x0, .int x2]) (rest := [.long y3_5]) hC (c_X6_raised l G x0 x2 r34 hc34 _) (va_cwS 2 hts gX6_waysToMoult_X6_raised rfl rfl rfl (by decide +kernel) ⟨Nat.le_of_ble_eq_true rfl, Nat.le_of_ble_eq_true rfl⟩) ⟨Pc0_blind, fun U hU hW => Pc0_at hE hP hD hU hW⟩ rfl rfl hl.1 rfl (lv_room (Nat.le_of_ble_eq_true rfl)) dX6_waysToMoult_34 ⟨Nat.zero_le _, Nat.zero_le _⟩) hS hA hD (fun H locs hP hD hS => ?_)
    refine lv_lmul hx hb dX6_waysToMoult_37 ?_
    refine lv_bipush (v := (nI 10)) hx hb dX6_waysToMoult_38 (bi_10) ?_
    refine lv_iload_n hx hb dX6_waysToMoult_40 rfl (lv_at hl 0 rfl) ?_
    refine lv_isub hx hb dX6_waysToMoult_41 ?_
    refine lv_iload_n hx hb dX6_waysToMoult_42 rfl (lv_at hl 1 rfl) ?_
    refine lv_iload_n hx hb dX6_waysToMoult_43 rfl (lv_at hl 2 rfl) ?_
    refine lv_isub hx hb dX6_waysToMoult_44 ?_
    obtain ⟨r45, hc45, hf⟩ := bd_e hf
    refine cl_l_same (Wd := ([] : va_W)) (W' := ([] : va_W)) (va_runS (As := [.int ((nI 10) - x0), .int (x1 - x2)]) (rest := [.long (y3_5 * r34)]) hC (c_X6_raised l G ((nI 10) - x0) (x1 - x2) r45 hc45 _) (va_cwS 2 hts gX6_waysToMoult_X6_raised rfl rfl rfl (by decide +kernel) ⟨Nat.le_of_ble_eq_true rfl, Nat.le_of_ble_eq_true rfl⟩) ⟨Pc0_blind, fun U hU hW => Pc0_at hE hP hD hU hW⟩ rfl rfl hl.1 rfl (lv_room (Nat.le_of_ble_eq_true rfl)) dX6_waysToMoult_45 ⟨Nat.zero_le _, Nat.zero_le _⟩) hS hA hD (fun H locs hP hD hS => ?_)
    refine lv_lmul hx hb dX6_waysToMoult_48 ?_
    have hK9 := K0_of hf hK
    exact hRet ((y3_5 * r34) * r45) _ _ _ _ hK9 dX6_waysToMoult_49 hP hD hS
noncomputable def p_X6_luck_B37 (f : Mem) (fnow : Mem) (ftrial : Mem) : Option (Int64 × Mem) :=
  some ((-1 : Int64), ftrial)
noncomputable def p_X6_luck_B90 (f : Mem) (fnow : Mem) (ftrial_ : Mem) (x1 : Int32) (x2 : Int32) (x3 : Int32) (x4 : Int32) (x5 : Int32) (x6 : Int64) (x8 : Int32) : Option ((Int64 × Int32 × Mem) ⊕ (Int64 × Mem)) :=
  Option.bind (p_X0_passWeek ftrial_) <| fun (r94, ftrial_94) =>
  some (Sum.inl (x6, (x8 + nI 1), ftrial_94))
noncomputable def p_X6_luck_L58 (f : Mem) (fnow : Mem) (x1 : Int32) (x2 : Int32) (x3 : Int32) (x4 : Int32) (x5 : Int32) (z : Int64 × Int32 × Mem) : Option ((Int64 × Int32 × Mem) ⊕ (Int64 × Mem)) :=
  match z with
  | (x6, x8, ftrial_) =>
    if x4 < x8 then
      (some (Sum.inr (x6, ftrial_)))
    else
      (Option.bind (p_X0_eggOwner ftrial_ x2) <| fun r70 =>
       if r70 = x3 then
         (Option.bind (p_X6_waysToMoult x1 x4 x8) <| fun r84 =>
          p_X6_luck_B90 f fnow ftrial_ x1 x2 x3 x4 x5 (x6 + r84) x8)
       else
         (p_X6_luck_B90 f fnow ftrial_ x1 x2 x3 x4 x5 x6 x8))
noncomputable def p_X6_luck (f : Mem) (fnow : Mem) (ftrial : Mem) (x1 : Int32) (x2 : Int32) (x3 : Int32) (x4 : Int32) (x5 : Int32) : Option (Int64 × Mem) :=
  Option.bind (p_X6_areOdds x1 x4) <| fun r3 =>
  if r3 = 0 then
    (p_X6_luck_B37 f fnow ftrial)
  else
    (Option.bind (p_X0_hasGoose fnow x2) <| fun r14 =>
     if r14 = 0 then
       (p_X6_luck_B37 f fnow ftrial)
     else
       (Option.bind (p_X6_isOwner x3) <| fun r21 =>
        if r21 = 0 then
          (p_X6_luck_B37 f fnow ftrial)
        else
          (Option.bind (p_X6_isWithin x5 (nI 0) (nI 1)) <| fun r31 =>
           if r31 = 0 then
             (p_X6_luck_B37 f fnow ftrial)
           else
             (Option.bind (p_X0_copyFrom ftrial fnow) <| fun ftrial_49 =>
              Option.bind (lp (p_X6_luck_L58 f fnow x1 x2 x3 x4 x5) ((lN 0), (nI 0), ftrial_49)) <| fun (y6_58, ftrial_58) =>
              Option.bind (p_X6_raised (nI 10) x4) <| fun r110 =>
              Option.bind (p_X6_partOfFraction y6_58 r110 x5) <| fun r115 =>
              some (r115, ftrial_58)))))
set_option maxHeartbeats 4000000 in
set_option maxRecDepth 100000 in
theorem c_X6_luck (l : Launch) (G : Gt) (ad : Nat → Nat) (ado : Nat → Nat → Nat) (f : Mem) (fnow : Mem) (ftrial : Mem) (x1 : Int32) (x2 : Int32) (x3 : Int32) (x4 : Int32) (x5 : Int32) (r : Int64) (ftrialz : Mem) (hf : p_X6_luck f fnow ftrial x1 x2 x3 x4 x5 = some (r, ftrialz)) (sz : Nat) : Met l yX6_luck wsX6_luck ({ frames := 4, cells := 0, slots := 0, locals := 110 }) (Pc0 G sz [.ref (ad 0), .int x1, .int x2, .int x3, .int x4, .int x5] (wX6 G ad ado f ++ (wX0 G (ado 1) fnow ++ (wX0 G (ado 2) ftrial)))) (Ql0 G (va_A (wX6 G ad ado f ++ (wX0 G (ado 1) fnow ++ (wX0 G (ado 2) ftrial))) sz) r (wX6 G ad ado f ++ (wX0 G (ado 1) fnow ++ (wX0 G (ado 2) ftrialz)))) 0 0 (va_A (wX6 G ad ado f ++ (wX0 G (ado 1) fnow ++ (wX0 G (ado 2) ftrial))) sz) := by
  refine metP (Qf := fun A => Ql0 G A r (wX6 G ad ado f ++ (wX0 G (ado 1) fnow ++ (wX0 G (ado 2) ftrialz)))) cX6_luck 9 (some .long) (by decide) rfl (Nat.le_of_ble_eq_true rfl) ?_
  intro p e s m below meth c A ls hC hr hlocks hin hE hA hsz hP hD hS hl
  generalize hargs : ([.ref (ad 0), .int x1, .int x2, .int x3, .int x4, .int x5] : List Value).toArray = args at hC ⊢
  obtain ⟨hx, hb, hml, hown, hts⟩ := id hC
  have hT : va_K G.1 vwCl (tyL G) s := hE.1
  have hRet : ∀ (r9 : Int64) (ftrial9 : Mem) (H : Heap) (locs : List Loc) (ls : Array Slot) (pc : Nat) (hK9 : (r9, ftrial9) = (r, ftrialz)) (hdg : decode cX6_luck pc = .ok (.lreturn, 1)), va_P G.1 vwCl (wX6 G ad ado f ++ (wX0 G (ado 1) fnow ++ (wX0 G (ado 2) ftrial9))) H → va_D A (wX6 G ad ado f ++ (wX0 G (ado 1) fnow ++ (wX0 G (ado 2) ftrial9))) → va_S A s.heap H locs → W p l e ({ frames := 4, cells := 0, slots := 0, locals := 110 }) s m args below meth c H locs 0 0 (MQ below (Ql0 G A r (wX6 G ad ado f ++ (wX0 G (ado 1) fnow ++ (wX0 G (ado 2) ftrialz)))) args s 0 0 A) (F0 m pc ls [.long r9]) := by
    intro r9 ftrial9 H locs ls pc hK9 hdg hP hD hS
    cases hK9
    exact W.lret hx hb hr (fun t ht hW => ⟨⟨r, (), rfl, rfl, by rw [ht]; exact hP, hD⟩, hS.F ht⟩) hS.2.2 hdg hlocks
  generalize MQ below (Ql0 G A r (wX6 G ad ado f ++ (wX0 G (ado 1) fnow ++ (wX0 G (ado 2) ftrialz)))) args s 0 0 A = Q at hRet ⊢
  have lk12 := hts (.fieldLink RX6 12 "FeatherShares" "now" "LFeatherShares$Flock;") (by decide +kernel)
  have inX6 : ∀ w ∈ u_ws RX6 TX6 11, w ∈ wsX6_luck := by decide +kernel
  have lk16 := hts (.fieldLink RX6 16 "FeatherShares" "trial" "LFeatherShares$Flock;") (by decide +kernel)
  have hl : lv_has ls 9 [(0, .ref (ad 0)), (1, .int x1), (2, .int x2), (3, .int x3), (4, .int x4), (5, .int x5)] := hl
  have hK0 : (r, ftrialz) = (r, ftrialz) := rfl
  have hB37 : ∀ (f : Mem) (fnow : Mem) (ftrial : Mem) (res : Int64 × Mem) (hf : p_X6_luck_B37 f fnow ftrial = some res) (hK : res = (r, ftrialz)), ∀ (H : Heap) (locs : List Loc) (ls : Array Slot), va_P G.1 vwCl (wX6 G ad ado f ++ (wX0 G (ado 1) fnow ++ (wX0 G (ado 2) ftrial))) H → va_D A (wX6 G ad ado f ++ (wX0 G (ado 1) fnow ++ (wX0 G (ado 2) ftrial))) → va_S A s.heap H locs → lv_has ls 9 [] → W p l e ({ frames := 4, cells := 0, slots := 0, locals := 110 }) s m args below meth c H locs 0 0 Q (F0 m 37 ls []) := by
    intro f fnow ftrial res hf hK H locs ls hP hD hS hl
    unfold p_X6_luck_B37 at hf
    refine W.ldc2 (v := (-1 : Int64)) hx hb hown (hts (.constantLong RX6 241 (-1 : Int64)) (by decide +kernel)) rfl dX6_luck_37 ?_
    refine W.eq (g2 := F0 m 40 ls [.long (-1 : Int64)]) rfl ?_
    have hK9 := K0_of hf hK
    exact hRet (-1 : Int64) ftrial _ _ _ _ hK9 dX6_luck_40 hP hD hS
  obtain ⟨res, hres, hK⟩ : ∃ res, p_X6_luck f fnow ftrial x1 x2 x3 x4 x5 = some res ∧ res = (r, ftrialz) := ⟨_, hf, rfl⟩
  clear hf
  have hf := hres
  clear hres
  unfold p_X6_luck at hf
  refine lv_iload_n hx hb dX6_luck_0 rfl (lv_at hl 1 rfl) ?_
  refine lv_iload hx hb dX6_luck_1 (lv_at hl 4 rfl) ?_
  obtain ⟨r3, hc3, hf⟩ := bd_e hf
  refine cl_z_ro (Wd := (wX6 G ad ado f ++ (wX0 G (ado 1) fnow ++ (wX0 G (ado 2) ftrial)))) (Wc := ([] : va_W)) [] rfl (va_runS (As := [.int x1, .int x4]) (rest := []) hC (c_X6_areOdds l G x1 x4 r3 hc3 _) (va_cwS 2 hts gX6_luck_X6_areOdds rfl rfl rfl (by decide +kernel) ⟨Nat.le_of_ble_eq_true rfl, Nat.le_of_ble_eq_true rfl⟩) ⟨Pc0_blind, fun U hU hW => Pc0_at (Wd := ([] : va_W)) hE (hP.subm [] rfl) (hD.sub [] (by decide) rfl) hU hW⟩ rfl rfl hl.1 rfl (lv_room (Nat.le_of_ble_eq_true rfl)) dX6_luck_3 ⟨Nat.zero_le _, Nat.zero_le _⟩) hS hA hP hD (fun H locs hn3 hP hD hS => ?_)
  refine lv_if_eq (tgt := 37) hx hb dX6_luck_6 (by decide) (fun hc => ?_) (fun hc => ?_)
  · have hf := if_t hf hc
    exact hB37 f fnow ftrial _ hf hK _ _ _ hP hD hS (lv_sub hl [] rfl)
  · have hf := if_f hf hc
    refine lv_aload_n hx hb dX6_luck_9 rfl (lv_at hl 0 rfl) ?_
    refine va_get (C := RX6) (T := TX6) (N := 11) (ci := 6) (v := .ref ((ado 1) 0)) hx hb hts inX6 hown hT hP 0 rfl rfl 0 (Nat.le_of_ble_eq_true rfl) lk12 (fun _ h => h) rfl dX6_luck_10 ?_
    refine lv_iload_n hx hb dX6_luck_13 rfl (lv_at hl 2 rfl) ?_
    obtain ⟨r14, hc14, hf⟩ := bd_e hf
    refine cl_z_ro (Wd := (wX6 G ad ado f ++ (wX0 G (ado 1) fnow ++ (wX0 G (ado 2) ftrial)))) (Wc := (wX0 G (ado 1) fnow)) [4, 5, 6, 7, 8, 9, 10, 11, 12, 13, 14] rfl (va_runVN (As := [.int x2]) (rest := []) hC (c_X0_hasGoose l G (ado 1) fnow x2 r14 hc14 _) ⟨va_cnB 1 hts gX6_luck_X0_hasGoose_n126 rfl rfl rfl (hE.2.2 (RX6, 126, yX0_hasGoose, "FeatherShares") (List.mem_of_getElem? (i := 10) rfl)) (hts (.initialized RX0) (by decide +kernel)) (by decide +kernel) ⟨Nat.le_of_ble_eq_true rfl, Nat.le_of_ble_eq_true rfl⟩, hts (.instanceMethod yX0_hasGoose) (by decide +kernel), hts (.selects RX0 yX0_hasGoose yX0_hasGoose) (by decide +kernel)⟩ ⟨Pc0_blind, va_recv hT hP (q0 := 4) (ci := 0) rfl rfl, fun U hU hW => Pc0_at (Wd := (wX0 G (ado 1) fnow)) hE (hP.subm [4, 5, 6, 7, 8, 9, 10, 11, 12, 13, 14] rfl) (hD.sub [4, 5, 6, 7, 8, 9, 10, 11, 12, 13, 14] (by decide) rfl) hU hW⟩ rfl rfl hl.1 rfl (lv_room (Nat.le_of_ble_eq_true rfl)) dX6_luck_14 ⟨Nat.zero_le _, Nat.zero_le _⟩) hS hA hP hD (fun H locs hn14 hP hD hS => ?_)
    refine lv_if_eq (tgt := 37) hx hb dX6_luck_17 (by decide) (fun hc => ?_) (fun hc => ?_)
    · have hf := if_t hf hc
      exact hB37 f fnow ftrial _ hf hK _ _ _ hP hD hS (lv_sub hl [] rfl)
    · have hf := if_f hf hc
      refine lv_iload_n hx hb dX6_luck_20 rfl (lv_at hl 3 rfl) ?_
      obtain ⟨r21, hc21, hf⟩ := bd_e hf
      refine cl_z_ro (Wd := (wX6 G ad ado f ++ (wX0 G (ado 1) fnow ++ (wX0 G (ado 2) ftrial)))) (Wc := ([] : va_W)) [] rfl (va_runS (As := [.int x3]) (rest := []) hC (c_X6_isOwner l G x3 r21 hc21 _) (va_cwS 1 hts gX6_luck_X6_isOwner rfl rfl rfl (by decide +kernel) ⟨Nat.le_of_ble_eq_true rfl, Nat.le_of_ble_eq_true rfl⟩) ⟨Pc0_blind, fun U hU hW => Pc0_at (Wd := ([] : va_W)) hE (hP.subm [] rfl) (hD.sub [] (by decide) rfl) hU hW⟩ rfl rfl hl.1 rfl (lv_room (Nat.le_of_ble_eq_true rfl)) dX6_luck_21 ⟨Nat.zero_le _, Nat.zero_le _⟩) hS hA hP hD (fun H locs hn21 hP hD hS => ?_)
      refine lv_if_eq (tgt := 37) hx hb dX6_luck_24 (by decide) (fun hc => ?_) (fun hc => ?_)
      · have hf := if_t hf hc
        exact hB37 f fnow ftrial _ hf hK _ _ _ hP hD hS (lv_sub hl [] rfl)
      · have hf := if_f hf hc
        refine lv_iload hx hb dX6_luck_27 (lv_at hl 5 rfl) ?_
        refine lv_iconst (v := (nI 0)) hx hb dX6_luck_29 (ic_0) ?_
        refine lv_iconst (v := (nI 1)) hx hb dX6_luck_30 (ic_1) ?_
        obtain ⟨r31, hc31, hf⟩ := bd_e hf
        refine cl_z_ro (Wd := (wX6 G ad ado f ++ (wX0 G (ado 1) fnow ++ (wX0 G (ado 2) ftrial)))) (Wc := ([] : va_W)) [] rfl (va_runS (As := [.int x5, .int (nI 0), .int (nI 1)]) (rest := []) hC (c_X6_isWithin l G x5 (nI 0) (nI 1) r31 hc31 _) (va_cwS 3 hts gX6_luck_X6_isWithin rfl rfl rfl (by decide +kernel) ⟨Nat.le_of_ble_eq_true rfl, Nat.le_of_ble_eq_true rfl⟩) ⟨Pc0_blind, fun U hU hW => Pc0_at (Wd := ([] : va_W)) hE (hP.subm [] rfl) (hD.sub [] (by decide) rfl) hU hW⟩ rfl rfl hl.1 rfl (lv_room (Nat.le_of_ble_eq_true rfl)) dX6_luck_31 ⟨Nat.zero_le _, Nat.zero_le _⟩) hS hA hP hD (fun H locs hn31 hP hD hS => ?_)
        refine lv_if_ne (tgt := 41) hx hb dX6_luck_34 (by decide) (fun hc => ?_) (fun hc => ?_)
        · have hf := if_f hf hc
          refine lv_aload_n hx hb dX6_luck_41 rfl (lv_at hl 0 rfl) ?_
          refine va_get (C := RX6) (T := TX6) (N := 11) (ci := 6) (v := .ref ((ado 2) 0)) hx hb hts inX6 hown hT hP 0 rfl rfl 1 (Nat.le_of_ble_eq_true rfl) lk16 (fun _ h => h) rfl dX6_luck_42 ?_
          refine lv_aload_n hx hb dX6_luck_45 rfl (lv_at hl 0 rfl) ?_
          refine va_get (C := RX6) (T := TX6) (N := 11) (ci := 6) (v := .ref ((ado 1) 0)) hx hb hts inX6 hown hT hP 0 rfl rfl 0 (Nat.le_of_ble_eq_true rfl) lk12 (fun _ h => h) rfl dX6_luck_46 ?_
          obtain ⟨ftrial_49, hc49, hf⟩ := bd_e hf
          refine cl_v_up (Wd := (wX6 G ad ado f ++ (wX0 G (ado 1) fnow ++ (wX0 G (ado 2) ftrial)))) (Wc := (wX0 G (ado 2) ftrial ++ (wX0 G (ado 1) fnow))) (W' := (wX0 G (ado 2) ftrial_49 ++ (wX0 G (ado 1) fnow))) (W2 := (wX6 G ad ado f ++ (wX0 G (ado 1) fnow ++ (wX0 G (ado 2) ftrial_49)))) [15, 16, 17, 18, 19, 20, 21, 22, 23, 24, 25, 4, 5, 6, 7, 8, 9, 10, 11, 12, 13, 14] [0, 1, 2, 3] rfl rfl rfl rfl rfl (va_runVN (As := [.ref ((ado 1) 0)]) (rest := []) hC (c_X0_copyFrom l G (ado 2) (ado 1) ftrial fnow ftrial_49 hc49 _) ⟨va_cnB 1 hts gX6_luck_X0_copyFrom_n93 rfl rfl rfl (hE.2.2 (RX6, 93, yX0_copyFrom, "FeatherShares") (List.mem_of_getElem? (i := 8) rfl)) (hts (.initialized RX0) (by decide +kernel)) (by decide +kernel) ⟨Nat.le_of_ble_eq_true rfl, Nat.le_of_ble_eq_true rfl⟩, hts (.instanceMethod yX0_copyFrom) (by decide +kernel), hts (.selects RX0 yX0_copyFrom yX0_copyFrom) (by decide +kernel)⟩ ⟨Pc0_blind, va_recv hT hP (q0 := 15) (ci := 0) rfl rfl, fun U hU hW => Pc0_at (Wd := (wX0 G (ado 2) ftrial ++ (wX0 G (ado 1) fnow))) hE (hP.subm [15, 16, 17, 18, 19, 20, 21, 22, 23, 24, 25, 4, 5, 6, 7, 8, 9, 10, 11, 12, 13, 14] rfl) (hD.sub [15, 16, 17, 18, 19, 20, 21, 22, 23, 24, 25, 4, 5, 6, 7, 8, 9, 10, 11, 12, 13, 14] (by decide) rfl) hU hW⟩ rfl rfl hl.1 rfl (lv_room (Nat.le_of_ble_eq_true rfl)) dX6_luck_49 ⟨Nat.zero_le _, Nat.zero_le _⟩) hS hA hP hD (fun H locs hP hD hS => ?_)
          refine lv_lconst (v := (lN 0)) hx hb dX6_luck_52 rfl ?_
          refine lv_lstore (lv' := [(6, .long (lN 0)), (0, .ref (ad 0)), (1, .int x1), (2, .int x2), (3, .int x3), (4, .int x4), (5, .int x5)]) hx hb dX6_luck_53 hl (by decide) rfl (fun ls hl => ?_)
          refine lv_iconst (v := (nI 0)) hx hb dX6_luck_55 (ic_0) ?_
          refine lv_istore (lv' := [(8, .int (nI 0)), (6, .long (lN 0)), (0, .ref (ad 0)), (1, .int x1), (2, .int x2), (3, .int x3), (4, .int x4), (5, .int x5)]) hx hb dX6_luck_56 hl (by decide) rfl (fun ls hl => ?_)
          obtain ⟨⟨y6_58, ftrial_58⟩, hlp, hf⟩ := bd_e hf
          refine lp_W1 (p_X6_luck_L58 f fnow x1 x2 x3 x4 x5) (fun z => match z with | (x6, x8, ftrial_) => ∀ (H : Heap) (locs : List Loc) (ls : Array Slot), va_P G.1 vwCl (wX6 G ad ado f ++ (wX0 G (ado 1) fnow ++ (wX0 G (ado 2) ftrial_))) H → va_D A (wX6 G ad ado f ++ (wX0 G (ado 1) fnow ++ (wX0 G (ado 2) ftrial_))) → va_S A s.heap H locs → lv_has ls 9 [(0, .ref (ad 0)), (1, .int x1), (2, .int x2), (3, .int x3), (4, .int x4), (5, .int x5), (6, .long x6), (8, .int x8)] → W p l e ({ frames := 4, cells := 0, slots := 0, locals := 110 }) s m args below meth c H locs 0 0 Q (F0 m 58 ls [])) (fun z => match z with | (y6_58, ftrial_58) => ∀ (H : Heap) (locs : List Loc) (ls : Array Slot), va_P G.1 vwCl (wX6 G ad ado f ++ (wX0 G (ado 1) fnow ++ (wX0 G (ado 2) ftrial_58))) H → va_D A (wX6 G ad ado f ++ (wX0 G (ado 1) fnow ++ (wX0 G (ado 2) ftrial_58))) → va_S A s.heap H locs → lv_has ls 9 [(4, .int x4), (5, .int x5), (6, .long y6_58)] → W p l e ({ frames := 4, cells := 0, slots := 0, locals := 110 }) s m args below meth c H locs 0 0 Q (F0 m 104 ls [])) ?_ hlp ?_ _ _ _ hP hD hS (lv_sub hl [2, 3, 4, 5, 6, 7, 1, 0] rfl)
          · clear hlp hf hK hP hD hS hl
            intro K58 hW58 hX58 
            have hB90 : ∀ (ftrial_ : Mem) (x6 : Int64) (x8 : Int32) (res : (Int64 × Int32 × Mem) ⊕ (Int64 × Mem)) (hf : p_X6_luck_B90 f fnow ftrial_ x1 x2 x3 x4 x5 x6 x8 = some res) (hK : K58 res), ∀ (H : Heap) (locs : List Loc) (ls : Array Slot), va_P G.1 vwCl (wX6 G ad ado f ++ (wX0 G (ado 1) fnow ++ (wX0 G (ado 2) ftrial_))) H → va_D A (wX6 G ad ado f ++ (wX0 G (ado 1) fnow ++ (wX0 G (ado 2) ftrial_))) → va_S A s.heap H locs → lv_has ls 9 [(0, .ref (ad 0)), (1, .int x1), (2, .int x2), (3, .int x3), (4, .int x4), (5, .int x5), (6, .long x6), (8, .int x8)] → W p l e ({ frames := 4, cells := 0, slots := 0, locals := 110 }) s m args below meth c H locs 0 0 Q (F0 m 90 ls []) := by
              intro ftrial_ x6 x8 res hf hK H locs ls hP hD hS hl
              unfold p_X6_luck_B90 at hf
              refine lv_aload_n hx hb dX6_luck_90 rfl (lv_at hl 0 rfl) ?_
              refine va_get (C := RX6) (T := TX6) (N := 11) (ci := 6) (v := .ref ((ado 2) 0)) hx hb hts inX6 hown hT hP 0 rfl rfl 1 (Nat.le_of_ble_eq_true rfl) lk16 (fun _ h => h) rfl dX6_luck_91 ?_
              obtain ⟨⟨r94, ftrial_94⟩, hc94, hf⟩ := bd_e hf
              try dsimp only at hf
              refine cl_i_up (Wd := (wX6 G ad ado f ++ (wX0 G (ado 1) fnow ++ (wX0 G (ado 2) ftrial_)))) (Wc := (wX0 G (ado 2) ftrial_)) (W' := (wX0 G (ado 2) ftrial_94)) (W2 := (wX6 G ad ado f ++ (wX0 G (ado 1) fnow ++ (wX0 G (ado 2) ftrial_94)))) [15, 16, 17, 18, 19, 20, 21, 22, 23, 24, 25] [0, 1, 2, 3, 4, 5, 6, 7, 8, 9, 10, 11, 12, 13, 14] rfl rfl rfl rfl rfl (va_runVN (As := []) (rest := []) hC (c_X0_passWeek l G (ado 2) ftrial_ r94 ftrial_94 hc94 _) ⟨va_cnB 0 hts gX6_luck_X0_passWeek_n207 rfl rfl rfl (hE.2.2 (RX6, 207, yX0_passWeek, "FeatherShares") (List.mem_of_getElem? (i := 25) rfl)) (hts (.initialized RX0) (by decide +kernel)) (by decide +kernel) ⟨Nat.le_of_ble_eq_true rfl, Nat.le_of_ble_eq_true rfl⟩, hts (.instanceMethod yX0_passWeek) (by decide +kernel), hts (.selects RX0 yX0_passWeek yX0_passWeek) (by decide +kernel)⟩ ⟨Pc0_blind, va_recv hT hP (q0 := 15) (ci := 0) rfl rfl, fun U hU hW => Pc0_at (Wd := (wX0 G (ado 2) ftrial_)) hE (hP.subm [15, 16, 17, 18, 19, 20, 21, 22, 23, 24, 25] rfl) (hD.sub [15, 16, 17, 18, 19, 20, 21, 22, 23, 24, 25] (by decide) rfl) hU hW⟩ rfl rfl hl.1 rfl (lv_room (Nat.le_of_ble_eq_true rfl)) dX6_luck_94 ⟨Nat.zero_le _, Nat.zero_le _⟩) hS hA hP hD (fun H locs hP hD hS => ?_)
              refine lv_pop hx hb dX6_luck_97 rfl ?_
              refine lv_iinc (v := (x8 + nI 1)) (lv' := [(8, .int (x8 + nI 1)), (0, .ref (ad 0)), (1, .int x1), (2, .int x2), (3, .int x3), (4, .int x4), (5, .int x5), (6, .long x6)]) hx hb dX6_luck_98 hl (k := 7) rfl (ii_x 1 _) (by decide) rfl (fun ls hl => ?_)
              refine lv_goto (tgt := 58) hx hb dX6_luck_101 (by decide) ?_
              have hK9 := K_of hf hK
              have hK9 := hW58 _ hK9
              exact hK9 _ _ _ hP hD hS (lv_sub hl [1, 2, 3, 4, 5, 6, 7, 0] rfl)
            rintro ⟨x6, x8, ftrial_⟩ res hf hK H locs ls hP hD hS hl
            unfold p_X6_luck_L58 at hf
            dsimp only at hf
            refine lv_iload hx hb dX6_luck_58 (lv_at hl 7 rfl) ?_
            refine lv_iload hx hb dX6_luck_60 (lv_at hl 4 rfl) ?_
            refine lv_icmp_gt (tgt := 104) hx hb dX6_luck_62 (by decide) (fun hc => ?_) (fun hc => ?_)
            · have hf := if_t hf hc
              have hK9 := K_of hf hK
              have hK9 := hX58 _ hK9
              exact hK9 _ _ _ hP hD hS (lv_sub hl [4, 5, 6] rfl)
            · have hf := if_f hf hc
              refine lv_aload_n hx hb dX6_luck_65 rfl (lv_at hl 0 rfl) ?_
              refine va_get (C := RX6) (T := TX6) (N := 11) (ci := 6) (v := .ref ((ado 2) 0)) hx hb hts inX6 hown hT hP 0 rfl rfl 1 (Nat.le_of_ble_eq_true rfl) lk16 (fun _ h => h) rfl dX6_luck_66 ?_
              refine lv_iload_n hx hb dX6_luck_69 rfl (lv_at hl 2 rfl) ?_
              obtain ⟨r70, hc70, hf⟩ := bd_e hf
              refine cl_i_ro (Wd := (wX6 G ad ado f ++ (wX0 G (ado 1) fnow ++ (wX0 G (ado 2) ftrial_)))) (Wc := (wX0 G (ado 2) ftrial_)) [15, 16, 17, 18, 19, 20, 21, 22, 23, 24, 25] rfl (va_runVN (As := [.int x2]) (rest := []) hC (c_X0_eggOwner l G (ado 2) ftrial_ x2 r70 hc70 _) ⟨va_cnB 1 hts gX6_luck_X0_eggOwner_n142 rfl rfl rfl (hE.2.2 (RX6, 142, yX0_eggOwner, "FeatherShares") (List.mem_of_getElem? (i := 12) rfl)) (hts (.initialized RX0) (by decide +kernel)) (by decide +kernel) ⟨Nat.le_of_ble_eq_true rfl, Nat.le_of_ble_eq_true rfl⟩, hts (.instanceMethod yX0_eggOwner) (by decide +kernel), hts (.selects RX0 yX0_eggOwner yX0_eggOwner) (by decide +kernel)⟩ ⟨Pc0_blind, va_recv hT hP (q0 := 15) (ci := 0) rfl rfl, fun U hU hW => Pc0_at (Wd := (wX0 G (ado 2) ftrial_)) hE (hP.subm [15, 16, 17, 18, 19, 20, 21, 22, 23, 24, 25] rfl) (hD.sub [15, 16, 17, 18, 19, 20, 21, 22, 23, 24, 25] (by decide) rfl) hU hW⟩ rfl rfl hl.1 rfl (lv_room (Nat.le_of_ble_eq_true rfl)) dX6_luck_70 ⟨Nat.zero_le _, Nat.zero_le _⟩) hS hA hP hD (fun H locs hP hD hS => ?_)
              refine lv_iload_n hx hb dX6_luck_73 rfl (lv_at hl 3 rfl) ?_
              refine lv_icmp_ne (tgt := 90) hx hb dX6_luck_74 (by decide) (fun hc => ?_) (fun hc => ?_)
              · have hf := if_f hf hc
                exact hB90 ftrial_ x6 x8 _ hf hK _ _ _ hP hD hS (lv_sub hl [0, 1, 2, 3, 4, 5, 6, 7] rfl)
              · have hf := if_t hf hc
                refine lv_lload hx hb dX6_luck_77 (lv_at hl 6 rfl) ?_
                refine lv_iload_n hx hb dX6_luck_79 rfl (lv_at hl 1 rfl) ?_
                refine lv_iload hx hb dX6_luck_80 (lv_at hl 4 rfl) ?_
                refine lv_iload hx hb dX6_luck_82 (lv_at hl 7 rfl) ?_
                obtain ⟨r84, hc84, hf⟩ := bd_e hf
                refine cl_l_ro (Wd := (wX6 G ad ado f ++ (wX0 G (ado 1) fnow ++ (wX0 G (ado 2) ftrial_)))) (Wc := ([] : va_W)) [] rfl (va_runS (As := [.int x1, .int x4, .int x8]) (rest := [.long x6]) hC (c_X6_waysToMoult l G x1 x4 x8 r84 hc84 _) (va_cwS 3 hts gX6_luck_X6_waysToMoult rfl rfl rfl (by decide +kernel) ⟨Nat.le_of_ble_eq_true rfl, Nat.le_of_ble_eq_true rfl⟩) ⟨Pc0_blind, fun U hU hW => Pc0_at (Wd := ([] : va_W)) hE (hP.subm [] rfl) (hD.sub [] (by decide) rfl) hU hW⟩ rfl rfl hl.1 rfl (lv_room (Nat.le_of_ble_eq_true rfl)) dX6_luck_84 ⟨Nat.zero_le _, Nat.zero_le _⟩) hS hA hP hD (fun H locs hP hD hS => ?_)
                refine lv_ladd hx hb dX6_luck_87 ?_
                refine lv_lstore (lv' := [(6, .long (x6 + r84)), (0, .ref (ad 0)), (1, .int x1), (2, .int x2), (3, .int x3), (4, .int x4), (5, .int x5), (8, .int x8)]) hx hb dX6_luck_88 hl (by decide) rfl (fun ls hl => ?_)
                exact hB90 ftrial_ (x6 + r84) x8 _ hf hK _ _ _ hP hD hS (lv_sub hl [1, 2, 3, 4, 5, 6, 0, 7] rfl)
          · try dsimp only at hf
            show ∀ (H : Heap) (locs : List Loc) (ls : Array Slot), va_P G.1 vwCl (wX6 G ad ado f ++ (wX0 G (ado 1) fnow ++ (wX0 G (ado 2) ftrial_58))) H → va_D A (wX6 G ad ado f ++ (wX0 G (ado 1) fnow ++ (wX0 G (ado 2) ftrial_58))) → va_S A s.heap H locs → lv_has ls 9 [(4, .int x4), (5, .int x5), (6, .long y6_58)] → W p l e ({ frames := 4, cells := 0, slots := 0, locals := 110 }) s m args below meth c H locs 0 0 Q (F0 m 104 ls [])
            intro H locs ls hP hD hS hl
            refine lv_lload hx hb dX6_luck_104 (lv_at hl 2 rfl) ?_
            refine lv_bipush (v := (nI 10)) hx hb dX6_luck_106 (bi_10) ?_
            refine lv_iload hx hb dX6_luck_108 (lv_at hl 0 rfl) ?_
            obtain ⟨r110, hc110, hf⟩ := bd_e hf
            refine cl_l_ro (Wd := (wX6 G ad ado f ++ (wX0 G (ado 1) fnow ++ (wX0 G (ado 2) ftrial_58)))) (Wc := ([] : va_W)) [] rfl (va_runS (As := [.int (nI 10), .int x4]) (rest := [.long y6_58]) hC (c_X6_raised l G (nI 10) x4 r110 hc110 _) (va_cwS 2 hts gX6_luck_X6_raised rfl rfl rfl (by decide +kernel) ⟨Nat.le_of_ble_eq_true rfl, Nat.le_of_ble_eq_true rfl⟩) ⟨Pc0_blind, fun U hU hW => Pc0_at (Wd := ([] : va_W)) hE (hP.subm [] rfl) (hD.sub [] (by decide) rfl) hU hW⟩ rfl rfl hl.1 rfl (lv_room (Nat.le_of_ble_eq_true rfl)) dX6_luck_110 ⟨Nat.zero_le _, Nat.zero_le _⟩) hS hA hP hD (fun H locs hP hD hS => ?_)
            refine lv_iload hx hb dX6_luck_113 (lv_at hl 1 rfl) ?_
            obtain ⟨r115, hc115, hf⟩ := bd_e hf
            refine cl_l_ro (Wd := (wX6 G ad ado f ++ (wX0 G (ado 1) fnow ++ (wX0 G (ado 2) ftrial_58)))) (Wc := ([] : va_W)) [] rfl (va_runS (As := [.long y6_58, .long r110, .int x5]) (rest := []) hC (c_X6_partOfFraction l G y6_58 r110 x5 r115 hc115 _) (va_cwS 3 hts gX6_luck_X6_partOfFraction rfl rfl rfl (by decide +kernel) ⟨Nat.le_of_ble_eq_true rfl, Nat.le_of_ble_eq_true rfl⟩) ⟨Pc0_blind, fun U hU hW => Pc0_at (Wd := ([] : va_W)) hE (hP.subm [] rfl) (hD.sub [] (by decide) rfl) hU hW⟩ rfl rfl hl.1 rfl (lv_room (Nat.le_of_ble_eq_true rfl)) dX6_luck_115 ⟨Nat.zero_le _, Nat.zero_le _⟩) hS hA hP hD (fun H locs hP hD hS => ?_)
            have hK9 := K0_of hf hK
            exact hRet r115 ftrial_58 _ _ _ _ hK9 dX6_luck_118 hP hD hS
        · have hf := if_t hf hc
          exact hB37 f fnow ftrial _ hf hK _ _ _ hP hD hS (lv_sub hl [] rfl)
noncomputable def p_X6_mean_B29 (f : Mem) (fnow : Mem) (ftrial : Mem) : Option (Int64 × Mem) :=
  some ((-1 : Int64), ftrial)
noncomputable def p_X6_mean_L50 (f : Mem) (fnow : Mem) (x1 : Int32) (x2 : Int32) (x3 : Int32) (x4 : Int32) (z : Int64 × Int32 × Mem) : Option ((Int64 × Int32 × Mem) ⊕ (Int64 × Mem)) :=
  match z with
  | (x5, x7, ftrial_) =>
    if x3 < x7 then
      (some (Sum.inr (x5, ftrial_)))
    else
      (Option.bind (p_X6_waysToMoult x1 x3 x7) <| fun r62 =>
       Option.bind (p_X0_feathersOf ftrial_ x2) <| fun r70 =>
       Option.bind (p_X0_passWeek ftrial_) <| fun (r82, ftrial_82) =>
       some (Sum.inl ((x5 + (r62 * ((r70).toInt64))), (x7 + nI 1), ftrial_82)))
noncomputable def p_X6_mean (f : Mem) (fnow : Mem) (ftrial : Mem) (x1 : Int32) (x2 : Int32) (x3 : Int32) (x4 : Int32) : Option (Int64 × Mem) :=
  Option.bind (p_X6_areOdds x1 x3) <| fun r2 =>
  if r2 = 0 then
    (p_X6_mean_B29 f fnow ftrial)
  else
    (Option.bind (p_X0_hasGoose fnow x2) <| fun r13 =>
     if r13 = 0 then
       (p_X6_mean_B29 f fnow ftrial)
     else
       (Option.bind (p_X6_isWithin x4 (nI 0) (nI 1)) <| fun r23 =>
        if r23 = 0 then
          (p_X6_mean_B29 f fnow ftrial)
        else
          (Option.bind (p_X0_copyFrom ftrial fnow) <| fun ftrial_41 =>
           Option.bind (lp (p_X6_mean_L50 f fnow x1 x2 x3 x4) ((lN 0), (nI 0), ftrial_41)) <| fun (y5_50, ftrial_50) =>
           Option.bind (p_X6_raised (nI 10) x3) <| fun r97 =>
           Option.bind (p_X6_partOfFraction y5_50 r97 x4) <| fun r102 =>
           some (r102, ftrial_50))))
set_option maxHeartbeats 4000000 in
set_option maxRecDepth 100000 in
theorem c_X6_mean (l : Launch) (G : Gt) (ad : Nat → Nat) (ado : Nat → Nat → Nat) (f : Mem) (fnow : Mem) (ftrial : Mem) (x1 : Int32) (x2 : Int32) (x3 : Int32) (x4 : Int32) (r : Int64) (ftrialz : Mem) (hf : p_X6_mean f fnow ftrial x1 x2 x3 x4 = some (r, ftrialz)) (sz : Nat) : Met l yX6_mean wsX6_mean ({ frames := 4, cells := 0, slots := 0, locals := 110 }) (Pc0 G sz [.ref (ad 0), .int x1, .int x2, .int x3, .int x4] (wX6 G ad ado f ++ (wX0 G (ado 1) fnow ++ (wX0 G (ado 2) ftrial)))) (Ql0 G (va_A (wX6 G ad ado f ++ (wX0 G (ado 1) fnow ++ (wX0 G (ado 2) ftrial))) sz) r (wX6 G ad ado f ++ (wX0 G (ado 1) fnow ++ (wX0 G (ado 2) ftrialz)))) 0 0 (va_A (wX6 G ad ado f ++ (wX0 G (ado 1) fnow ++ (wX0 G (ado 2) ftrial))) sz) := by
  refine metP (Qf := fun A => Ql0 G A r (wX6 G ad ado f ++ (wX0 G (ado 1) fnow ++ (wX0 G (ado 2) ftrialz)))) cX6_mean 8 (some .long) (by decide) rfl (Nat.le_of_ble_eq_true rfl) ?_
  intro p e s m below meth c A ls hC hr hlocks hin hE hA hsz hP hD hS hl
  generalize hargs : ([.ref (ad 0), .int x1, .int x2, .int x3, .int x4] : List Value).toArray = args at hC ⊢
  obtain ⟨hx, hb, hml, hown, hts⟩ := id hC
  have hT : va_K G.1 vwCl (tyL G) s := hE.1
  have hRet : ∀ (r9 : Int64) (ftrial9 : Mem) (H : Heap) (locs : List Loc) (ls : Array Slot) (pc : Nat) (hK9 : (r9, ftrial9) = (r, ftrialz)) (hdg : decode cX6_mean pc = .ok (.lreturn, 1)), va_P G.1 vwCl (wX6 G ad ado f ++ (wX0 G (ado 1) fnow ++ (wX0 G (ado 2) ftrial9))) H → va_D A (wX6 G ad ado f ++ (wX0 G (ado 1) fnow ++ (wX0 G (ado 2) ftrial9))) → va_S A s.heap H locs → W p l e ({ frames := 4, cells := 0, slots := 0, locals := 110 }) s m args below meth c H locs 0 0 (MQ below (Ql0 G A r (wX6 G ad ado f ++ (wX0 G (ado 1) fnow ++ (wX0 G (ado 2) ftrialz)))) args s 0 0 A) (F0 m pc ls [.long r9]) := by
    intro r9 ftrial9 H locs ls pc hK9 hdg hP hD hS
    cases hK9
    exact W.lret hx hb hr (fun t ht hW => ⟨⟨r, (), rfl, rfl, by rw [ht]; exact hP, hD⟩, hS.F ht⟩) hS.2.2 hdg hlocks
  generalize MQ below (Ql0 G A r (wX6 G ad ado f ++ (wX0 G (ado 1) fnow ++ (wX0 G (ado 2) ftrialz)))) args s 0 0 A = Q at hRet ⊢
  have lk12 := hts (.fieldLink RX6 12 "FeatherShares" "now" "LFeatherShares$Flock;") (by decide +kernel)
  have inX6 : ∀ w ∈ u_ws RX6 TX6 11, w ∈ wsX6_mean := by decide +kernel
  have lk16 := hts (.fieldLink RX6 16 "FeatherShares" "trial" "LFeatherShares$Flock;") (by decide +kernel)
  have hl : lv_has ls 8 [(0, .ref (ad 0)), (1, .int x1), (2, .int x2), (3, .int x3), (4, .int x4)] := hl
  have hK0 : (r, ftrialz) = (r, ftrialz) := rfl
  have hB29 : ∀ (f : Mem) (fnow : Mem) (ftrial : Mem) (res : Int64 × Mem) (hf : p_X6_mean_B29 f fnow ftrial = some res) (hK : res = (r, ftrialz)), ∀ (H : Heap) (locs : List Loc) (ls : Array Slot), va_P G.1 vwCl (wX6 G ad ado f ++ (wX0 G (ado 1) fnow ++ (wX0 G (ado 2) ftrial))) H → va_D A (wX6 G ad ado f ++ (wX0 G (ado 1) fnow ++ (wX0 G (ado 2) ftrial))) → va_S A s.heap H locs → lv_has ls 8 [] → W p l e ({ frames := 4, cells := 0, slots := 0, locals := 110 }) s m args below meth c H locs 0 0 Q (F0 m 29 ls []) := by
    intro f fnow ftrial res hf hK H locs ls hP hD hS hl
    unfold p_X6_mean_B29 at hf
    refine W.ldc2 (v := (-1 : Int64)) hx hb hown (hts (.constantLong RX6 241 (-1 : Int64)) (by decide +kernel)) rfl dX6_mean_29 ?_
    refine W.eq (g2 := F0 m 32 ls [.long (-1 : Int64)]) rfl ?_
    have hK9 := K0_of hf hK
    exact hRet (-1 : Int64) ftrial _ _ _ _ hK9 dX6_mean_32 hP hD hS
  obtain ⟨res, hres, hK⟩ : ∃ res, p_X6_mean f fnow ftrial x1 x2 x3 x4 = some res ∧ res = (r, ftrialz) := ⟨_, hf, rfl⟩
  clear hf
  have hf := hres
  clear hres
  unfold p_X6_mean at hf
  refine lv_iload_n hx hb dX6_mean_0 rfl (lv_at hl 1 rfl) ?_
  refine lv_iload_n hx hb dX6_mean_1 rfl (lv_at hl 3 rfl) ?_
  obtain ⟨r2, hc2, hf⟩ := bd_e hf
  refine cl_z_ro (Wd := (wX6 G ad ado f ++ (wX0 G (ado 1) fnow ++ (wX0 G (ado 2) ftrial)))) (Wc := ([] : va_W)) [] rfl (va_runS (As := [.int x1, .int x3]) (rest := []) hC (c_X6_areOdds l G x1 x3 r2 hc2 _) (va_cwS 2 hts gX6_mean_X6_areOdds rfl rfl rfl (by decide +kernel) ⟨Nat.le_of_ble_eq_true rfl, Nat.le_of_ble_eq_true rfl⟩) ⟨Pc0_blind, fun U hU hW => Pc0_at (Wd := ([] : va_W)) hE (hP.subm [] rfl) (hD.sub [] (by decide) rfl) hU hW⟩ rfl rfl hl.1 rfl (lv_room (Nat.le_of_ble_eq_true rfl)) dX6_mean_2 ⟨Nat.zero_le _, Nat.zero_le _⟩) hS hA hP hD (fun H locs hn2 hP hD hS => ?_)
  refine lv_if_eq (tgt := 29) hx hb dX6_mean_5 (by decide) (fun hc => ?_) (fun hc => ?_)
  · have hf := if_t hf hc
    exact hB29 f fnow ftrial _ hf hK _ _ _ hP hD hS (lv_sub hl [] rfl)
  · have hf := if_f hf hc
    refine lv_aload_n hx hb dX6_mean_8 rfl (lv_at hl 0 rfl) ?_
    refine va_get (C := RX6) (T := TX6) (N := 11) (ci := 6) (v := .ref ((ado 1) 0)) hx hb hts inX6 hown hT hP 0 rfl rfl 0 (Nat.le_of_ble_eq_true rfl) lk12 (fun _ h => h) rfl dX6_mean_9 ?_
    refine lv_iload_n hx hb dX6_mean_12 rfl (lv_at hl 2 rfl) ?_
    obtain ⟨r13, hc13, hf⟩ := bd_e hf
    refine cl_z_ro (Wd := (wX6 G ad ado f ++ (wX0 G (ado 1) fnow ++ (wX0 G (ado 2) ftrial)))) (Wc := (wX0 G (ado 1) fnow)) [4, 5, 6, 7, 8, 9, 10, 11, 12, 13, 14] rfl (va_runVN (As := [.int x2]) (rest := []) hC (c_X0_hasGoose l G (ado 1) fnow x2 r13 hc13 _) ⟨va_cnB 1 hts gX6_mean_X0_hasGoose_n126 rfl rfl rfl (hE.2.2 (RX6, 126, yX0_hasGoose, "FeatherShares") (List.mem_of_getElem? (i := 10) rfl)) (hts (.initialized RX0) (by decide +kernel)) (by decide +kernel) ⟨Nat.le_of_ble_eq_true rfl, Nat.le_of_ble_eq_true rfl⟩, hts (.instanceMethod yX0_hasGoose) (by decide +kernel), hts (.selects RX0 yX0_hasGoose yX0_hasGoose) (by decide +kernel)⟩ ⟨Pc0_blind, va_recv hT hP (q0 := 4) (ci := 0) rfl rfl, fun U hU hW => Pc0_at (Wd := (wX0 G (ado 1) fnow)) hE (hP.subm [4, 5, 6, 7, 8, 9, 10, 11, 12, 13, 14] rfl) (hD.sub [4, 5, 6, 7, 8, 9, 10, 11, 12, 13, 14] (by decide) rfl) hU hW⟩ rfl rfl hl.1 rfl (lv_room (Nat.le_of_ble_eq_true rfl)) dX6_mean_13 ⟨Nat.zero_le _, Nat.zero_le _⟩) hS hA hP hD (fun H locs hn13 hP hD hS => ?_)
    refine lv_if_eq (tgt := 29) hx hb dX6_mean_16 (by decide) (fun hc => ?_) (fun hc => ?_)
    · have hf := if_t hf hc
      exact hB29 f fnow ftrial _ hf hK _ _ _ hP hD hS (lv_sub hl [] rfl)
    · have hf := if_f hf hc
      refine lv_iload hx hb dX6_mean_19 (lv_at hl 4 rfl) ?_
      refine lv_iconst (v := (nI 0)) hx hb dX6_mean_21 (ic_0) ?_
      refine lv_iconst (v := (nI 1)) hx hb dX6_mean_22 (ic_1) ?_
      obtain ⟨r23, hc23, hf⟩ := bd_e hf
      refine cl_z_ro (Wd := (wX6 G ad ado f ++ (wX0 G (ado 1) fnow ++ (wX0 G (ado 2) ftrial)))) (Wc := ([] : va_W)) [] rfl (va_runS (As := [.int x4, .int (nI 0), .int (nI 1)]) (rest := []) hC (c_X6_isWithin l G x4 (nI 0) (nI 1) r23 hc23 _) (va_cwS 3 hts gX6_mean_X6_isWithin rfl rfl rfl (by decide +kernel) ⟨Nat.le_of_ble_eq_true rfl, Nat.le_of_ble_eq_true rfl⟩) ⟨Pc0_blind, fun U hU hW => Pc0_at (Wd := ([] : va_W)) hE (hP.subm [] rfl) (hD.sub [] (by decide) rfl) hU hW⟩ rfl rfl hl.1 rfl (lv_room (Nat.le_of_ble_eq_true rfl)) dX6_mean_23 ⟨Nat.zero_le _, Nat.zero_le _⟩) hS hA hP hD (fun H locs hn23 hP hD hS => ?_)
      refine lv_if_ne (tgt := 33) hx hb dX6_mean_26 (by decide) (fun hc => ?_) (fun hc => ?_)
      · have hf := if_f hf hc
        refine lv_aload_n hx hb dX6_mean_33 rfl (lv_at hl 0 rfl) ?_
        refine va_get (C := RX6) (T := TX6) (N := 11) (ci := 6) (v := .ref ((ado 2) 0)) hx hb hts inX6 hown hT hP 0 rfl rfl 1 (Nat.le_of_ble_eq_true rfl) lk16 (fun _ h => h) rfl dX6_mean_34 ?_
        refine lv_aload_n hx hb dX6_mean_37 rfl (lv_at hl 0 rfl) ?_
        refine va_get (C := RX6) (T := TX6) (N := 11) (ci := 6) (v := .ref ((ado 1) 0)) hx hb hts inX6 hown hT hP 0 rfl rfl 0 (Nat.le_of_ble_eq_true rfl) lk12 (fun _ h => h) rfl dX6_mean_38 ?_
        obtain ⟨ftrial_41, hc41, hf⟩ := bd_e hf
        refine cl_v_up (Wd := (wX6 G ad ado f ++ (wX0 G (ado 1) fnow ++ (wX0 G (ado 2) ftrial)))) (Wc := (wX0 G (ado 2) ftrial ++ (wX0 G (ado 1) fnow))) (W' := (wX0 G (ado 2) ftrial_41 ++ (wX0 G (ado 1) fnow))) (W2 := (wX6 G ad ado f ++ (wX0 G (ado 1) fnow ++ (wX0 G (ado 2) ftrial_41)))) [15, 16, 17, 18, 19, 20, 21, 22, 23, 24, 25, 4, 5, 6, 7, 8, 9, 10, 11, 12, 13, 14] [0, 1, 2, 3] rfl rfl rfl rfl rfl (va_runVN (As := [.ref ((ado 1) 0)]) (rest := []) hC (c_X0_copyFrom l G (ado 2) (ado 1) ftrial fnow ftrial_41 hc41 _) ⟨va_cnB 1 hts gX6_mean_X0_copyFrom_n93 rfl rfl rfl (hE.2.2 (RX6, 93, yX0_copyFrom, "FeatherShares") (List.mem_of_getElem? (i := 8) rfl)) (hts (.initialized RX0) (by decide +kernel)) (by decide +kernel) ⟨Nat.le_of_ble_eq_true rfl, Nat.le_of_ble_eq_true rfl⟩, hts (.instanceMethod yX0_copyFrom) (by decide +kernel), hts (.selects RX0 yX0_copyFrom yX0_copyFrom) (by decide +kernel)⟩ ⟨Pc0_blind, va_recv hT hP (q0 := 15) (ci := 0) rfl rfl, fun U hU hW => Pc0_at (Wd := (wX0 G (ado 2) ftrial ++ (wX0 G (ado 1) fnow))) hE (hP.subm [15, 16, 17, 18, 19, 20, 21, 22, 23, 24, 25, 4, 5, 6, 7, 8, 9, 10, 11, 12, 13, 14] rfl) (hD.sub [15, 16, 17, 18, 19, 20, 21, 22, 23, 24, 25, 4, 5, 6, 7, 8, 9, 10, 11, 12, 13, 14] (by decide) rfl) hU hW⟩ rfl rfl hl.1 rfl (lv_room (Nat.le_of_ble_eq_true rfl)) dX6_mean_41 ⟨Nat.zero_le _, Nat.zero_le _⟩) hS hA hP hD (fun H locs hP hD hS => ?_)
        refine lv_lconst (v := (lN 0)) hx hb dX6_mean_44 rfl ?_
        refine lv_lstore (lv' := [(5, .long (lN 0)), (0, .ref (ad 0)), (1, .int x1), (2, .int x2), (3, .int x3), (4, .int x4)]) hx hb dX6_mean_45 hl (by decide) rfl (fun ls hl => ?_)
        refine lv_iconst (v := (nI 0)) hx hb dX6_mean_47 (ic_0) ?_
        refine lv_istore (lv' := [(7, .int (nI 0)), (5, .long (lN 0)), (0, .ref (ad 0)), (1, .int x1), (2, .int x2), (3, .int x3), (4, .int x4)]) hx hb dX6_mean_48 hl (by decide) rfl (fun ls hl => ?_)
        obtain ⟨⟨y5_50, ftrial_50⟩, hlp, hf⟩ := bd_e hf
        refine lp_W1 (p_X6_mean_L50 f fnow x1 x2 x3 x4) (fun z => match z with | (x5, x7, ftrial_) => ∀ (H : Heap) (locs : List Loc) (ls : Array Slot), va_P G.1 vwCl (wX6 G ad ado f ++ (wX0 G (ado 1) fnow ++ (wX0 G (ado 2) ftrial_))) H → va_D A (wX6 G ad ado f ++ (wX0 G (ado 1) fnow ++ (wX0 G (ado 2) ftrial_))) → va_S A s.heap H locs → lv_has ls 8 [(0, .ref (ad 0)), (1, .int x1), (2, .int x2), (3, .int x3), (4, .int x4), (5, .long x5), (7, .int x7)] → W p l e ({ frames := 4, cells := 0, slots := 0, locals := 110 }) s m args below meth c H locs 0 0 Q (F0 m 50 ls [])) (fun z => match z with | (y5_50, ftrial_50) => ∀ (H : Heap) (locs : List Loc) (ls : Array Slot), va_P G.1 vwCl (wX6 G ad ado f ++ (wX0 G (ado 1) fnow ++ (wX0 G (ado 2) ftrial_50))) H → va_D A (wX6 G ad ado f ++ (wX0 G (ado 1) fnow ++ (wX0 G (ado 2) ftrial_50))) → va_S A s.heap H locs → lv_has ls 8 [(3, .int x3), (4, .int x4), (5, .long y5_50)] → W p l e ({ frames := 4, cells := 0, slots := 0, locals := 110 }) s m args below meth c H locs 0 0 Q (F0 m 92 ls [])) ?_ hlp ?_ _ _ _ hP hD hS (lv_sub hl [2, 3, 4, 5, 6, 1, 0] rfl)
        · clear hlp hf hK hP hD hS hl
          intro K50 hW50 hX50 
          rintro ⟨x5, x7, ftrial_⟩ res hf hK H locs ls hP hD hS hl
          unfold p_X6_mean_L50 at hf
          dsimp only at hf
          refine lv_iload hx hb dX6_mean_50 (lv_at hl 6 rfl) ?_
          refine lv_iload_n hx hb dX6_mean_52 rfl (lv_at hl 3 rfl) ?_
          refine lv_icmp_gt (tgt := 92) hx hb dX6_mean_53 (by decide) (fun hc => ?_) (fun hc => ?_)
          · have hf := if_t hf hc
            have hK9 := K_of hf hK
            have hK9 := hX50 _ hK9
            exact hK9 _ _ _ hP hD hS (lv_sub hl [3, 4, 5] rfl)
          · have hf := if_f hf hc
            refine lv_lload hx hb dX6_mean_56 (lv_at hl 5 rfl) ?_
            refine lv_iload_n hx hb dX6_mean_58 rfl (lv_at hl 1 rfl) ?_
            refine lv_iload_n hx hb dX6_mean_59 rfl (lv_at hl 3 rfl) ?_
            refine lv_iload hx hb dX6_mean_60 (lv_at hl 6 rfl) ?_
            obtain ⟨r62, hc62, hf⟩ := bd_e hf
            refine cl_l_ro (Wd := (wX6 G ad ado f ++ (wX0 G (ado 1) fnow ++ (wX0 G (ado 2) ftrial_)))) (Wc := ([] : va_W)) [] rfl (va_runS (As := [.int x1, .int x3, .int x7]) (rest := [.long x5]) hC (c_X6_waysToMoult l G x1 x3 x7 r62 hc62 _) (va_cwS 3 hts gX6_mean_X6_waysToMoult rfl rfl rfl (by decide +kernel) ⟨Nat.le_of_ble_eq_true rfl, Nat.le_of_ble_eq_true rfl⟩) ⟨Pc0_blind, fun U hU hW => Pc0_at (Wd := ([] : va_W)) hE (hP.subm [] rfl) (hD.sub [] (by decide) rfl) hU hW⟩ rfl rfl hl.1 rfl (lv_room (Nat.le_of_ble_eq_true rfl)) dX6_mean_62 ⟨Nat.zero_le _, Nat.zero_le _⟩) hS hA hP hD (fun H locs hP hD hS => ?_)
            refine lv_aload_n hx hb dX6_mean_65 rfl (lv_at hl 0 rfl) ?_
            refine va_get (C := RX6) (T := TX6) (N := 11) (ci := 6) (v := .ref ((ado 2) 0)) hx hb hts inX6 hown hT hP 0 rfl rfl 1 (Nat.le_of_ble_eq_true rfl) lk16 (fun _ h => h) rfl dX6_mean_66 ?_
            refine lv_iload_n hx hb dX6_mean_69 rfl (lv_at hl 2 rfl) ?_
            obtain ⟨r70, hc70, hf⟩ := bd_e hf
            refine cl_i_ro (Wd := (wX6 G ad ado f ++ (wX0 G (ado 1) fnow ++ (wX0 G (ado 2) ftrial_)))) (Wc := (wX0 G (ado 2) ftrial_)) [15, 16, 17, 18, 19, 20, 21, 22, 23, 24, 25] rfl (va_runVN (As := [.int x2]) (rest := [.long r62, .long x5]) hC (c_X0_feathersOf l G (ado 2) ftrial_ x2 r70 hc70 _) ⟨va_cnB 1 hts gX6_mean_X0_feathersOf_n138 rfl rfl rfl (hE.2.2 (RX6, 138, yX0_feathersOf, "FeatherShares") (List.mem_of_getElem? (i := 11) rfl)) (hts (.initialized RX0) (by decide +kernel)) (by decide +kernel) ⟨Nat.le_of_ble_eq_true rfl, Nat.le_of_ble_eq_true rfl⟩, hts (.instanceMethod yX0_feathersOf) (by decide +kernel), hts (.selects RX0 yX0_feathersOf yX0_feathersOf) (by decide +kernel)⟩ ⟨Pc0_blind, va_recv hT hP (q0 := 15) (ci := 0) rfl rfl, fun U hU hW => Pc0_at (Wd := (wX0 G (ado 2) ftrial_)) hE (hP.subm [15, 16, 17, 18, 19, 20, 21, 22, 23, 24, 25] rfl) (hD.sub [15, 16, 17, 18, 19, 20, 21, 22, 23, 24, 25] (by decide) rfl) hU hW⟩ rfl rfl hl.1 rfl (lv_room (Nat.le_of_ble_eq_true rfl)) dX6_mean_70 ⟨Nat.zero_le _, Nat.zero_le _⟩) hS hA hP hD (fun H locs hP hD hS => ?_)
            refine lv_i2l (v := ((r70).toInt64)) hx hb dX6_mean_73 rfl ?_
            refine lv_lmul hx hb dX6_mean_74 ?_
            refine lv_ladd hx hb dX6_mean_75 ?_
            refine lv_lstore (lv' := [(5, .long (x5 + (r62 * ((r70).toInt64)))), (0, .ref (ad 0)), (1, .int x1), (2, .int x2), (3, .int x3), (4, .int x4), (7, .int x7)]) hx hb dX6_mean_76 hl (by decide) rfl (fun ls hl => ?_)
            refine lv_aload_n hx hb dX6_mean_78 rfl (lv_at hl 1 rfl) ?_
            refine va_get (C := RX6) (T := TX6) (N := 11) (ci := 6) (v := .ref ((ado 2) 0)) hx hb hts inX6 hown hT hP 0 rfl rfl 1 (Nat.le_of_ble_eq_true rfl) lk16 (fun _ h => h) rfl dX6_mean_79 ?_
            obtain ⟨⟨r82, ftrial_82⟩, hc82, hf⟩ := bd_e hf
            try dsimp only at hf
            refine cl_i_up (Wd := (wX6 G ad ado f ++ (wX0 G (ado 1) fnow ++ (wX0 G (ado 2) ftrial_)))) (Wc := (wX0 G (ado 2) ftrial_)) (W' := (wX0 G (ado 2) ftrial_82)) (W2 := (wX6 G ad ado f ++ (wX0 G (ado 1) fnow ++ (wX0 G (ado 2) ftrial_82)))) [15, 16, 17, 18, 19, 20, 21, 22, 23, 24, 25] [0, 1, 2, 3, 4, 5, 6, 7, 8, 9, 10, 11, 12, 13, 14] rfl rfl rfl rfl rfl (va_runVN (As := []) (rest := []) hC (c_X0_passWeek l G (ado 2) ftrial_ r82 ftrial_82 hc82 _) ⟨va_cnB 0 hts gX6_mean_X0_passWeek_n207 rfl rfl rfl (hE.2.2 (RX6, 207, yX0_passWeek, "FeatherShares") (List.mem_of_getElem? (i := 25) rfl)) (hts (.initialized RX0) (by decide +kernel)) (by decide +kernel) ⟨Nat.le_of_ble_eq_true rfl, Nat.le_of_ble_eq_true rfl⟩, hts (.instanceMethod yX0_passWeek) (by decide +kernel), hts (.selects RX0 yX0_passWeek yX0_passWeek) (by decide +kernel)⟩ ⟨Pc0_blind, va_recv hT hP (q0 := 15) (ci := 0) rfl rfl, fun U hU hW => Pc0_at (Wd := (wX0 G (ado 2) ftrial_)) hE (hP.subm [15, 16, 17, 18, 19, 20, 21, 22, 23, 24, 25] rfl) (hD.sub [15, 16, 17, 18, 19, 20, 21, 22, 23, 24, 25] (by decide) rfl) hU hW⟩ rfl rfl hl.1 rfl (lv_room (Nat.le_of_ble_eq_true rfl)) dX6_mean_82 ⟨Nat.zero_le _, Nat.zero_le _⟩) hS hA hP hD (fun H locs hP hD hS => ?_)
            refine lv_pop hx hb dX6_mean_85 rfl ?_
            refine lv_iinc (v := (x7 + nI 1)) (lv' := [(7, .int (x7 + nI 1)), (5, .long (x5 + (r62 * ((r70).toInt64)))), (0, .ref (ad 0)), (1, .int x1), (2, .int x2), (3, .int x3), (4, .int x4)]) hx hb dX6_mean_86 hl (k := 6) rfl (ii_x 1 _) (by decide) rfl (fun ls hl => ?_)
            refine lv_goto (tgt := 50) hx hb dX6_mean_89 (by decide) ?_
            have hK9 := K_of hf hK
            have hK9 := hW50 _ hK9
            exact hK9 _ _ _ hP hD hS (lv_sub hl [2, 3, 4, 5, 6, 1, 0] rfl)
        · try dsimp only at hf
          show ∀ (H : Heap) (locs : List Loc) (ls : Array Slot), va_P G.1 vwCl (wX6 G ad ado f ++ (wX0 G (ado 1) fnow ++ (wX0 G (ado 2) ftrial_50))) H → va_D A (wX6 G ad ado f ++ (wX0 G (ado 1) fnow ++ (wX0 G (ado 2) ftrial_50))) → va_S A s.heap H locs → lv_has ls 8 [(3, .int x3), (4, .int x4), (5, .long y5_50)] → W p l e ({ frames := 4, cells := 0, slots := 0, locals := 110 }) s m args below meth c H locs 0 0 Q (F0 m 92 ls [])
          intro H locs ls hP hD hS hl
          refine lv_lload hx hb dX6_mean_92 (lv_at hl 2 rfl) ?_
          refine lv_bipush (v := (nI 10)) hx hb dX6_mean_94 (bi_10) ?_
          refine lv_iload_n hx hb dX6_mean_96 rfl (lv_at hl 0 rfl) ?_
          obtain ⟨r97, hc97, hf⟩ := bd_e hf
          refine cl_l_ro (Wd := (wX6 G ad ado f ++ (wX0 G (ado 1) fnow ++ (wX0 G (ado 2) ftrial_50)))) (Wc := ([] : va_W)) [] rfl (va_runS (As := [.int (nI 10), .int x3]) (rest := [.long y5_50]) hC (c_X6_raised l G (nI 10) x3 r97 hc97 _) (va_cwS 2 hts gX6_mean_X6_raised rfl rfl rfl (by decide +kernel) ⟨Nat.le_of_ble_eq_true rfl, Nat.le_of_ble_eq_true rfl⟩) ⟨Pc0_blind, fun U hU hW => Pc0_at (Wd := ([] : va_W)) hE (hP.subm [] rfl) (hD.sub [] (by decide) rfl) hU hW⟩ rfl rfl hl.1 rfl (lv_room (Nat.le_of_ble_eq_true rfl)) dX6_mean_97 ⟨Nat.zero_le _, Nat.zero_le _⟩) hS hA hP hD (fun H locs hP hD hS => ?_)
          refine lv_iload hx hb dX6_mean_100 (lv_at hl 1 rfl) ?_
          obtain ⟨r102, hc102, hf⟩ := bd_e hf
          refine cl_l_ro (Wd := (wX6 G ad ado f ++ (wX0 G (ado 1) fnow ++ (wX0 G (ado 2) ftrial_50)))) (Wc := ([] : va_W)) [] rfl (va_runS (As := [.long y5_50, .long r97, .int x4]) (rest := []) hC (c_X6_partOfFraction l G y5_50 r97 x4 r102 hc102 _) (va_cwS 3 hts gX6_mean_X6_partOfFraction rfl rfl rfl (by decide +kernel) ⟨Nat.le_of_ble_eq_true rfl, Nat.le_of_ble_eq_true rfl⟩) ⟨Pc0_blind, fun U hU hW => Pc0_at (Wd := ([] : va_W)) hE (hP.subm [] rfl) (hD.sub [] (by decide) rfl) hU hW⟩ rfl rfl hl.1 rfl (lv_room (Nat.le_of_ble_eq_true rfl)) dX6_mean_102 ⟨Nat.zero_le _, Nat.zero_le _⟩) hS hA hP hD (fun H locs hP hD hS => ?_)
          have hK9 := K0_of hf hK
          exact hRet r102 ftrial_50 _ _ _ _ hK9 dX6_mean_105 hP hD hS
      · have hf := if_t hf hc
        exact hB29 f fnow ftrial _ hf hK _ _ _ hP hD hS (lv_sub hl [] rfl)
noncomputable def p_X6_see (f : Mem) (fnow : Mem) (fsightings : Mem) (x1 : Int32) (x2 : Int32) (x3 : Int32) (x4 : Int32) : Option (Int32 × Mem) :=
  Option.bind (p_X0_hasGoose fnow x1) <| fun r5 =>
  if r5 = 0 then
    (some ((-1 : Int32), fsightings))
  else
    (Option.bind (p_X6_isOwner x2) <| fun r12 =>
     if r12 = 0 then
       (some ((-1 : Int32), fsightings))
     else
       (Option.bind (p_X6_isWithin x3 (nI 0) (nI 20)) <| fun r24 =>
        if r24 = 0 then
          (some ((-1 : Int32), fsightings))
        else
          (Option.bind (p_X6_isWithin x4 (nI 0) (nI 99)) <| fun r35 =>
           if r35 = 0 then
             (some ((-1 : Int32), fsightings))
           else
             (Option.bind (p_X3_add fsightings x1 x2 x3 x4) <| fun (r52, fsightings_52) =>
              if r52 = 0 then
                (some ((-3 : Int32), fsightings_52))
              else
                (some ((fsightings_52 0 0), fsightings_52))))))
set_option maxHeartbeats 4000000 in
set_option maxRecDepth 100000 in
theorem c_X6_see (l : Launch) (G : Gt) (ad : Nat → Nat) (ado : Nat → Nat → Nat) (f : Mem) (fnow : Mem) (fsightings : Mem) (x1 : Int32) (x2 : Int32) (x3 : Int32) (x4 : Int32) (r : Int32) (fsightingsz : Mem) (hf : p_X6_see f fnow fsightings x1 x2 x3 x4 = some (r, fsightingsz)) (sz : Nat) : Met l yX6_see wsX6_see ({ frames := 3, cells := 0, slots := 0, locals := 55 }) (Pc0 G sz [.ref (ad 0), .int x1, .int x2, .int x3, .int x4] (wX6 G ad ado f ++ (wX0 G (ado 1) fnow ++ (wX3 G (ado 8) fsightings)))) (Qi0 G (va_A (wX6 G ad ado f ++ (wX0 G (ado 1) fnow ++ (wX3 G (ado 8) fsightings))) sz) r (wX6 G ad ado f ++ (wX0 G (ado 1) fnow ++ (wX3 G (ado 8) fsightingsz)))) 0 0 (va_A (wX6 G ad ado f ++ (wX0 G (ado 1) fnow ++ (wX3 G (ado 8) fsightings))) sz) := by
  refine metP (Qf := fun A => Qi0 G A r (wX6 G ad ado f ++ (wX0 G (ado 1) fnow ++ (wX3 G (ado 8) fsightingsz)))) cX6_see 5 (some .int) (by decide) rfl (Nat.le_of_ble_eq_true rfl) ?_
  intro p e s m below meth c A ls hC hr hlocks hin hE hA hsz hP hD hS hl
  generalize hargs : ([.ref (ad 0), .int x1, .int x2, .int x3, .int x4] : List Value).toArray = args at hC ⊢
  obtain ⟨hx, hb, hml, hown, hts⟩ := id hC
  have hT : va_K G.1 vwCl (tyL G) s := hE.1
  have hRet : ∀ (r9 : Int32) (fsightings9 : Mem) (H : Heap) (locs : List Loc) (ls : Array Slot) (pc : Nat) (hK9 : (r9, fsightings9) = (r, fsightingsz)) (hdg : decode cX6_see pc = .ok (.ireturn, 1)), va_P G.1 vwCl (wX6 G ad ado f ++ (wX0 G (ado 1) fnow ++ (wX3 G (ado 8) fsightings9))) H → va_D A (wX6 G ad ado f ++ (wX0 G (ado 1) fnow ++ (wX3 G (ado 8) fsightings9))) → va_S A s.heap H locs → W p l e ({ frames := 3, cells := 0, slots := 0, locals := 55 }) s m args below meth c H locs 0 0 (MQ below (Qi0 G A r (wX6 G ad ado f ++ (wX0 G (ado 1) fnow ++ (wX3 G (ado 8) fsightingsz)))) args s 0 0 A) (F0 m pc ls [.int r9]) := by
    intro r9 fsightings9 H locs ls pc hK9 hdg hP hD hS
    cases hK9
    exact W.iret hx hb hr (fun t ht hW => ⟨⟨r, (), rfl, rfl, by rw [ht]; exact hP, hD⟩, hS.F ht⟩) hS.2.2 hdg hlocks
  generalize MQ below (Qi0 G A r (wX6 G ad ado f ++ (wX0 G (ado 1) fnow ++ (wX3 G (ado 8) fsightingsz)))) args s 0 0 A = Q at hRet ⊢
  have lk12 := hts (.fieldLink RX6 12 "FeatherShares" "now" "LFeatherShares$Flock;") (by decide +kernel)
  have inX6 : ∀ w ∈ u_ws RX6 TX6 11, w ∈ wsX6_see := by decide +kernel
  have lk44 := hts (.fieldLink RX6 44 "FeatherShares" "sightings" "LFeatherShares$Sightings;") (by decide +kernel)
  have lk97 := va_Nw.use (A := args) rfl (hE.2.1 (RX6, 97, "FeatherShares$Sightings", "size", "I", "FeatherShares") (List.mem_of_getElem? (i := 4) rfl))
  have inX3 : ∀ w ∈ u_ws RX3 TX3 5, w ∈ wsX6_see := by decide +kernel
  have hl : lv_has ls 5 [(0, .ref (ad 0)), (1, .int x1), (2, .int x2), (3, .int x3), (4, .int x4)] := hl
  have hK0 : (r, fsightingsz) = (r, fsightingsz) := rfl
  obtain ⟨res, hres, hK⟩ : ∃ res, p_X6_see f fnow fsightings x1 x2 x3 x4 = some res ∧ res = (r, fsightingsz) := ⟨_, hf, rfl⟩
  clear hf
  have hf := hres
  clear hres
  unfold p_X6_see at hf
  refine lv_aload_n hx hb dX6_see_0 rfl (lv_at hl 0 rfl) ?_
  refine va_get (C := RX6) (T := TX6) (N := 11) (ci := 6) (v := .ref ((ado 1) 0)) hx hb hts inX6 hown hT hP 0 rfl rfl 0 (Nat.le_of_ble_eq_true rfl) lk12 (fun _ h => h) rfl dX6_see_1 ?_
  refine lv_iload_n hx hb dX6_see_4 rfl (lv_at hl 1 rfl) ?_
  obtain ⟨r5, hc5, hf⟩ := bd_e hf
  refine cl_z_ro (Wd := (wX6 G ad ado f ++ (wX0 G (ado 1) fnow ++ (wX3 G (ado 8) fsightings)))) (Wc := (wX0 G (ado 1) fnow)) [4, 5, 6, 7, 8, 9, 10, 11, 12, 13, 14] rfl (va_runVN (As := [.int x1]) (rest := []) hC (c_X0_hasGoose l G (ado 1) fnow x1 r5 hc5 _) ⟨va_cnB 1 hts gX6_see_X0_hasGoose_n126 rfl rfl rfl (hE.2.2 (RX6, 126, yX0_hasGoose, "FeatherShares") (List.mem_of_getElem? (i := 10) rfl)) (hts (.initialized RX0) (by decide +kernel)) (by decide +kernel) ⟨Nat.le_of_ble_eq_true rfl, Nat.le_of_ble_eq_true rfl⟩, hts (.instanceMethod yX0_hasGoose) (by decide +kernel), hts (.selects RX0 yX0_hasGoose yX0_hasGoose) (by decide +kernel)⟩ ⟨Pc0_blind, va_recv hT hP (q0 := 4) (ci := 0) rfl rfl, fun U hU hW => Pc0_at (Wd := (wX0 G (ado 1) fnow)) hE (hP.subm [4, 5, 6, 7, 8, 9, 10, 11, 12, 13, 14] rfl) (hD.sub [4, 5, 6, 7, 8, 9, 10, 11, 12, 13, 14] (by decide) rfl) hU hW⟩ rfl rfl hl.1 rfl (lv_room (Nat.le_of_ble_eq_true rfl)) dX6_see_5 ⟨Nat.zero_le _, Nat.zero_le _⟩) hS hA hP hD (fun H locs hn5 hP hD hS => ?_)
  refine lv_if_eq (tgt := 18) hx hb dX6_see_8 (by decide) (fun hc => ?_) (fun hc => ?_)
  · have hf := if_t hf hc
    refine lv_iconst (v := (-1 : Int32)) hx hb dX6_see_18 (ic_m1) ?_
    have hK9 := K0_of hf hK
    exact hRet (-1 : Int32) fsightings _ _ _ _ hK9 dX6_see_19 hP hD hS
  · have hf := if_f hf hc
    refine lv_iload_n hx hb dX6_see_11 rfl (lv_at hl 2 rfl) ?_
    obtain ⟨r12, hc12, hf⟩ := bd_e hf
    refine cl_z_ro (Wd := (wX6 G ad ado f ++ (wX0 G (ado 1) fnow ++ (wX3 G (ado 8) fsightings)))) (Wc := ([] : va_W)) [] rfl (va_runS (As := [.int x2]) (rest := []) hC (c_X6_isOwner l G x2 r12 hc12 _) (va_cwS 1 hts gX6_see_X6_isOwner rfl rfl rfl (by decide +kernel) ⟨Nat.le_of_ble_eq_true rfl, Nat.le_of_ble_eq_true rfl⟩) ⟨Pc0_blind, fun U hU hW => Pc0_at (Wd := ([] : va_W)) hE (hP.subm [] rfl) (hD.sub [] (by decide) rfl) hU hW⟩ rfl rfl hl.1 rfl (lv_room (Nat.le_of_ble_eq_true rfl)) dX6_see_12 ⟨Nat.zero_le _, Nat.zero_le _⟩) hS hA hP hD (fun H locs hn12 hP hD hS => ?_)
    refine lv_if_ne (tgt := 20) hx hb dX6_see_15 (by decide) (fun hc => ?_) (fun hc => ?_)
    · have hf := if_f hf hc
      refine lv_iload_n hx hb dX6_see_20 rfl (lv_at hl 3 rfl) ?_
      refine lv_iconst (v := (nI 0)) hx hb dX6_see_21 (ic_0) ?_
      refine lv_bipush (v := (nI 20)) hx hb dX6_see_22 (bi_20) ?_
      obtain ⟨r24, hc24, hf⟩ := bd_e hf
      refine cl_z_ro (Wd := (wX6 G ad ado f ++ (wX0 G (ado 1) fnow ++ (wX3 G (ado 8) fsightings)))) (Wc := ([] : va_W)) [] rfl (va_runS (As := [.int x3, .int (nI 0), .int (nI 20)]) (rest := []) hC (c_X6_isWithin l G x3 (nI 0) (nI 20) r24 hc24 _) (va_cwS 3 hts gX6_see_X6_isWithin rfl rfl rfl (by decide +kernel) ⟨Nat.le_of_ble_eq_true rfl, Nat.le_of_ble_eq_true rfl⟩) ⟨Pc0_blind, fun U hU hW => Pc0_at (Wd := ([] : va_W)) hE (hP.subm [] rfl) (hD.sub [] (by decide) rfl) hU hW⟩ rfl rfl hl.1 rfl (lv_room (Nat.le_of_ble_eq_true rfl)) dX6_see_24 ⟨Nat.zero_le _, Nat.zero_le _⟩) hS hA hP hD (fun H locs hn24 hP hD hS => ?_)
      refine lv_if_eq (tgt := 41) hx hb dX6_see_27 (by decide) (fun hc => ?_) (fun hc => ?_)
      · have hf := if_t hf hc
        refine lv_iconst (v := (-1 : Int32)) hx hb dX6_see_41 (ic_m1) ?_
        have hK9 := K0_of hf hK
        exact hRet (-1 : Int32) fsightings _ _ _ _ hK9 dX6_see_42 hP hD hS
      · have hf := if_f hf hc
        refine lv_iload hx hb dX6_see_30 (lv_at hl 4 rfl) ?_
        refine lv_iconst (v := (nI 0)) hx hb dX6_see_32 (ic_0) ?_
        refine lv_bipush (v := (nI 99)) hx hb dX6_see_33 (bi_99) ?_
        obtain ⟨r35, hc35, hf⟩ := bd_e hf
        refine cl_z_ro (Wd := (wX6 G ad ado f ++ (wX0 G (ado 1) fnow ++ (wX3 G (ado 8) fsightings)))) (Wc := ([] : va_W)) [] rfl (va_runS (As := [.int x4, .int (nI 0), .int (nI 99)]) (rest := []) hC (c_X6_isWithin l G x4 (nI 0) (nI 99) r35 hc35 _) (va_cwS 3 hts gX6_see_X6_isWithin rfl rfl rfl (by decide +kernel) ⟨Nat.le_of_ble_eq_true rfl, Nat.le_of_ble_eq_true rfl⟩) ⟨Pc0_blind, fun U hU hW => Pc0_at (Wd := ([] : va_W)) hE (hP.subm [] rfl) (hD.sub [] (by decide) rfl) hU hW⟩ rfl rfl hl.1 rfl (lv_room (Nat.le_of_ble_eq_true rfl)) dX6_see_35 ⟨Nat.zero_le _, Nat.zero_le _⟩) hS hA hP hD (fun H locs hn35 hP hD hS => ?_)
        refine lv_if_ne (tgt := 43) hx hb dX6_see_38 (by decide) (fun hc => ?_) (fun hc => ?_)
        · have hf := if_f hf hc
          refine lv_aload_n hx hb dX6_see_43 rfl (lv_at hl 0 rfl) ?_
          refine va_get (C := RX6) (T := TX6) (N := 11) (ci := 6) (v := .ref ((ado 8) 0)) hx hb hts inX6 hown hT hP 0 rfl rfl 6 (Nat.le_of_ble_eq_true rfl) lk44 (fun _ h => h) rfl dX6_see_44 ?_
          refine lv_iload_n hx hb dX6_see_47 rfl (lv_at hl 1 rfl) ?_
          refine lv_iload_n hx hb dX6_see_48 rfl (lv_at hl 2 rfl) ?_
          refine lv_iload_n hx hb dX6_see_49 rfl (lv_at hl 3 rfl) ?_
          refine lv_iload hx hb dX6_see_50 (lv_at hl 4 rfl) ?_
          obtain ⟨⟨r52, fsightings_52⟩, hc52, hf⟩ := bd_e hf
          try dsimp only at hf
          refine cl_z_up (Wd := (wX6 G ad ado f ++ (wX0 G (ado 1) fnow ++ (wX3 G (ado 8) fsightings)))) (Wc := (wX3 G (ado 8) fsightings)) (W' := (wX3 G (ado 8) fsightings_52)) (W2 := (wX6 G ad ado f ++ (wX0 G (ado 1) fnow ++ (wX3 G (ado 8) fsightings_52)))) [15, 16, 17, 18, 19] [0, 1, 2, 3, 4, 5, 6, 7, 8, 9, 10, 11, 12, 13, 14] rfl rfl rfl rfl rfl (va_runVN (As := [.int x1, .int x2, .int x3, .int x4]) (rest := []) hC (c_X3_add l G (ado 8) fsightings x1 x2 x3 x4 r52 fsightings_52 hc52 _) ⟨va_cnB 4 hts gX6_see_X3_add_n264 rfl rfl rfl (hE.2.2 (RX6, 264, yX3_add, "FeatherShares") (List.mem_of_getElem? (i := 30) rfl)) (hts (.initialized RX3) (by decide +kernel)) (by decide +kernel) ⟨Nat.le_of_ble_eq_true rfl, Nat.le_of_ble_eq_true rfl⟩, hts (.instanceMethod yX3_add) (by decide +kernel), hts (.selects RX3 yX3_add yX3_add) (by decide +kernel)⟩ ⟨Pc0_blind, va_recv hT hP (q0 := 15) (ci := 3) rfl rfl, fun U hU hW => Pc0_at (Wd := (wX3 G (ado 8) fsightings)) hE (hP.subm [15, 16, 17, 18, 19] rfl) (hD.sub [15, 16, 17, 18, 19] (by decide) rfl) hU hW⟩ rfl rfl hl.1 rfl (lv_room (Nat.le_of_ble_eq_true rfl)) dX6_see_52 ⟨Nat.zero_le _, Nat.zero_le _⟩) hS hA hP hD (fun H locs hn52 hP hD hS => ?_)
          refine lv_if_eq (tgt := 68) hx hb dX6_see_55 (by decide) (fun hc => ?_) (fun hc => ?_)
          · have hf := if_t hf hc
            refine lv_bipush (v := (-3 : Int32)) hx hb dX6_see_68 (bi_m3) ?_
            have hK9 := K0_of hf hK
            exact hRet (-3 : Int32) fsightings_52 _ _ _ _ hK9 dX6_see_70 hP hD hS
          · have hf := if_f hf hc
            refine lv_aload_n hx hb dX6_see_58 rfl (lv_at hl 0 rfl) ?_
            refine va_get (C := RX6) (T := TX6) (N := 11) (ci := 6) (v := .ref ((ado 8) 0)) hx hb hts inX6 hown hT hP 0 rfl rfl 6 (Nat.le_of_ble_eq_true rfl) lk44 (fun _ h => h) rfl dX6_see_59 ?_
            refine va_getN (C := RX3) (T := TX3) (N := 5) (ci := 3) (v := .int (fsightings_52 0 0)) hx hb hts inX3 hown hT hP 15 rfl rfl 0 (Nat.le_of_ble_eq_true rfl) lk97 (fun _ h => h) rfl dX6_see_62 ?_
            refine lv_goto (tgt := 70) hx hb dX6_see_65 (by decide) ?_
            have hK9 := K0_of hf hK
            exact hRet (fsightings_52 0 0) fsightings_52 _ _ _ _ hK9 dX6_see_70 hP hD hS
        · have hf := if_t hf hc
          refine lv_iconst (v := (-1 : Int32)) hx hb dX6_see_41 (ic_m1) ?_
          have hK9 := K0_of hf hK
          exact hRet (-1 : Int32) fsightings _ _ _ _ hK9 dX6_see_42 hP hD hS
    · have hf := if_t hf hc
      refine lv_iconst (v := (-1 : Int32)) hx hb dX6_see_18 (ic_m1) ?_
      have hK9 := K0_of hf hK
      exact hRet (-1 : Int32) fsightings _ _ _ _ hK9 dX6_see_19 hP hD hS
noncomputable def p_X6_forget (f : Mem) (fsightings : Mem) (x1 : Int32) : Option (Int32 × Mem) :=
  Option.bind (p_X6_isWithin x1 (nI 0) (fsightings 0 0)) <| fun r9 =>
  if r9 = 0 then
    (some ((-1 : Int32), fsightings))
  else
    (some ((fsightings 0 0), (mset 0 0 x1 fsightings)))
set_option maxHeartbeats 4000000 in
set_option maxRecDepth 100000 in
theorem c_X6_forget (l : Launch) (G : Gt) (ad : Nat → Nat) (ado : Nat → Nat → Nat) (f : Mem) (fsightings : Mem) (x1 : Int32) (r : Int32) (fsightingsz : Mem) (hf : p_X6_forget f fsightings x1 = some (r, fsightingsz)) (sz : Nat) : Met l yX6_forget wsX6_forget ({ frames := 2, cells := 0, slots := 0, locals := 34 }) (Pc0 G sz [.ref (ad 0), .int x1] (wX6 G ad ado f ++ (wX3 G (ado 8) fsightings))) (Qi0 G (va_A (wX6 G ad ado f ++ (wX3 G (ado 8) fsightings)) sz) r (wX6 G ad ado f ++ (wX3 G (ado 8) fsightingsz))) 0 0 (va_A (wX6 G ad ado f ++ (wX3 G (ado 8) fsightings)) sz) := by
  refine metP (Qf := fun A => Qi0 G A r (wX6 G ad ado f ++ (wX3 G (ado 8) fsightingsz))) cX6_forget 3 (some .int) (by decide) rfl (Nat.le_of_ble_eq_true rfl) ?_
  intro p e s m below meth c A ls hC hr hlocks hin hE hA hsz hP hD hS hl
  generalize hargs : ([.ref (ad 0), .int x1] : List Value).toArray = args at hC ⊢
  obtain ⟨hx, hb, hml, hown, hts⟩ := id hC
  have hT : va_K G.1 vwCl (tyL G) s := hE.1
  have hRet : ∀ (r9 : Int32) (fsightings9 : Mem) (H : Heap) (locs : List Loc) (ls : Array Slot) (pc : Nat) (hK9 : (r9, fsightings9) = (r, fsightingsz)) (hdg : decode cX6_forget pc = .ok (.ireturn, 1)), va_P G.1 vwCl (wX6 G ad ado f ++ (wX3 G (ado 8) fsightings9)) H → va_D A (wX6 G ad ado f ++ (wX3 G (ado 8) fsightings9)) → va_S A s.heap H locs → W p l e ({ frames := 2, cells := 0, slots := 0, locals := 34 }) s m args below meth c H locs 0 0 (MQ below (Qi0 G A r (wX6 G ad ado f ++ (wX3 G (ado 8) fsightingsz))) args s 0 0 A) (F0 m pc ls [.int r9]) := by
    intro r9 fsightings9 H locs ls pc hK9 hdg hP hD hS
    cases hK9
    exact W.iret hx hb hr (fun t ht hW => ⟨⟨r, (), rfl, rfl, by rw [ht]; exact hP, hD⟩, hS.F ht⟩) hS.2.2 hdg hlocks
  generalize MQ below (Qi0 G A r (wX6 G ad ado f ++ (wX3 G (ado 8) fsightingsz))) args s 0 0 A = Q at hRet ⊢
  have lk44 := hts (.fieldLink RX6 44 "FeatherShares" "sightings" "LFeatherShares$Sightings;") (by decide +kernel)
  have inX6 : ∀ w ∈ u_ws RX6 TX6 11, w ∈ wsX6_forget := by decide +kernel
  have lk97 := va_Nw.use (A := args) rfl (hE.2.1 (RX6, 97, "FeatherShares$Sightings", "size", "I", "FeatherShares") (List.mem_of_getElem? (i := 4) rfl))
  have inX3 : ∀ w ∈ u_ws RX3 TX3 5, w ∈ wsX6_forget := by decide +kernel
  have hl : lv_has ls 3 [(0, .ref (ad 0)), (1, .int x1)] := hl
  have hK0 : (r, fsightingsz) = (r, fsightingsz) := rfl
  obtain ⟨res, hres, hK⟩ : ∃ res, p_X6_forget f fsightings x1 = some res ∧ res = (r, fsightingsz) := ⟨_, hf, rfl⟩
  clear hf
  have hf := hres
  clear hres
  unfold p_X6_forget at hf
  refine lv_iload_n hx hb dX6_forget_0 rfl (lv_at hl 1 rfl) ?_
  refine lv_iconst (v := (nI 0)) hx hb dX6_forget_1 (ic_0) ?_
  refine lv_aload_n hx hb dX6_forget_2 rfl (lv_at hl 0 rfl) ?_
  refine va_get (C := RX6) (T := TX6) (N := 11) (ci := 6) (v := .ref ((ado 8) 0)) hx hb hts inX6 hown hT hP 0 rfl rfl 6 (Nat.le_of_ble_eq_true rfl) lk44 (fun _ h => h) rfl dX6_forget_3 ?_
  refine va_getN (C := RX3) (T := TX3) (N := 5) (ci := 3) (v := .int (fsightings 0 0)) hx hb hts inX3 hown hT hP 4 rfl rfl 0 (Nat.le_of_ble_eq_true rfl) lk97 (fun _ h => h) rfl dX6_forget_6 ?_
  obtain ⟨r9, hc9, hf⟩ := bd_e hf
  refine cl_z_ro (Wd := (wX6 G ad ado f ++ (wX3 G (ado 8) fsightings))) (Wc := ([] : va_W)) [] rfl (va_runS (As := [.int x1, .int (nI 0), .int (fsightings 0 0)]) (rest := []) hC (c_X6_isWithin l G x1 (nI 0) (fsightings 0 0) r9 hc9 _) (va_cwS 3 hts gX6_forget_X6_isWithin rfl rfl rfl (by decide +kernel) ⟨Nat.le_of_ble_eq_true rfl, Nat.le_of_ble_eq_true rfl⟩) ⟨Pc0_blind, fun U hU hW => Pc0_at (Wd := ([] : va_W)) hE (hP.subm [] rfl) (hD.sub [] (by decide) rfl) hU hW⟩ rfl rfl hl.1 rfl (lv_room (Nat.le_of_ble_eq_true rfl)) dX6_forget_9 ⟨Nat.zero_le _, Nat.zero_le _⟩) hS hA hP hD (fun H locs hn9 hP hD hS => ?_)
  refine lv_if_ne (tgt := 17) hx hb dX6_forget_12 (by decide) (fun hc => ?_) (fun hc => ?_)
  · have hf := if_f hf hc
    refine lv_aload_n hx hb dX6_forget_17 rfl (lv_at hl 0 rfl) ?_
    refine va_get (C := RX6) (T := TX6) (N := 11) (ci := 6) (v := .ref ((ado 8) 0)) hx hb hts inX6 hown hT hP 0 rfl rfl 6 (Nat.le_of_ble_eq_true rfl) lk44 (fun _ h => h) rfl dX6_forget_18 ?_
    refine va_getN (C := RX3) (T := TX3) (N := 5) (ci := 3) (v := .int (fsightings 0 0)) hx hb hts inX3 hown hT hP 4 rfl rfl 0 (Nat.le_of_ble_eq_true rfl) lk97 (fun _ h => h) rfl dX6_forget_21 ?_
    refine lv_istore_n (lv' := [(2, .int (fsightings 0 0)), (0, .ref (ad 0)), (1, .int x1)]) hx hb dX6_forget_24 rfl hl (by decide) rfl (fun ls hl => ?_)
    refine lv_aload_n hx hb dX6_forget_25 rfl (lv_at hl 1 rfl) ?_
    refine va_get (C := RX6) (T := TX6) (N := 11) (ci := 6) (v := .ref ((ado 8) 0)) hx hb hts inX6 hown hT hP 0 rfl rfl 6 (Nat.le_of_ble_eq_true rfl) lk44 (fun _ h => h) rfl dX6_forget_26 ?_
    refine lv_iload_n hx hb dX6_forget_29 rfl (lv_at hl 2 rfl) ?_
    refine va_putN (C := RX3) (T := TX3) (N := 5) (ci := 3) (ty := .int) (v := .int x1) hx hb hts inX3 tyX3 tyX3_ok nmX3 hown hT hP hD hS 4 rfl rfl 0 (Nat.le_of_ble_eq_true rfl) lk97 (fun _ h => h) rfl (by decide +kernel) rfl rfl (Nat.le_of_ble_eq_true rfl) dX6_forget_30 (fun H locs hP hD hS => ?_)
    have hP : va_P G.1 vwCl (wX6 G ad ado f ++ (wX3 G (ado 8) (mset 0 0 x1 fsightings))) H := hP
    have hD : va_D A (wX6 G ad ado f ++ (wX3 G (ado 8) (mset 0 0 x1 fsightings))) := hD
    refine lv_iload_n hx hb dX6_forget_33 rfl (lv_at hl 0 rfl) ?_
    have hK9 := K0_of hf hK
    exact hRet (fsightings 0 0) (mset 0 0 x1 fsightings) _ _ _ _ hK9 dX6_forget_34 hP hD hS
  · have hf := if_t hf hc
    refine lv_iconst (v := (-1 : Int32)) hx hb dX6_forget_15 (ic_m1) ?_
    have hK9 := K0_of hf hK
    exact hRet (-1 : Int32) fsightings _ _ _ _ hK9 dX6_forget_16 hP hD hS
noncomputable def p_X6_kindsAsSeen_L4 (f : Mem) (fnow : Mem) (fsightings : Mem) (x1 : Int32) (z : Int32 × Int32 × Mem) : Option ((Int32 × Int32 × Mem) ⊕ (Int32 × Mem)) :=
  match z with
  | (x2, x3, ftrial_) =>
    if (nI 4) ≤ x3 then
      (some (Sum.inr (x2, ftrial_)))
    else
      (Option.bind (p_X0_copyFrom ftrial_ fnow) <| fun ftrial_17 =>
       gd (inb x1 3) <|
       Option.bind (p_X3_agreeWith fsightings (mrow 1 (upd (ftrial_17 1) x1.toNatClampNeg x3) ftrial_17)) <| fun (r38, ftrial_38) =>
       if r38 = 0 then
         (some (Sum.inl (x2, (x3 + nI 1), ftrial_38)))
       else
         (some (Sum.inl ((x2 ||| ((nI 1) <<< (x3 &&& 31))), (x3 + nI 1), ftrial_38))))
noncomputable def p_X6_kindsAsSeen (f : Mem) (fnow : Mem) (ftrial : Mem) (fsightings : Mem) (x1 : Int32) : Option (Int32 × Mem) :=
  Option.bind (lp (p_X6_kindsAsSeen_L4 f fnow fsightings x1) ((nI 0), (nI 0), ftrial)) <| fun (y2_4, ftrial_4) =>
  some (y2_4, ftrial_4)
set_option maxHeartbeats 4000000 in
set_option maxRecDepth 100000 in
theorem c_X6_kindsAsSeen (l : Launch) (G : Gt) (ad : Nat → Nat) (ado : Nat → Nat → Nat) (f : Mem) (fnow : Mem) (ftrial : Mem) (fsightings : Mem) (x1 : Int32) (r : Int32) (ftrialz : Mem) (hf : p_X6_kindsAsSeen f fnow ftrial fsightings x1 = some (r, ftrialz)) (sz : Nat) : Met l yX6_kindsAsSeen wsX6_kindsAsSeen ({ frames := 5, cells := 0, slots := 0, locals := 132 }) (Pc0 G sz [.ref (ad 0), .int x1] (wX6 G ad ado f ++ (wX0 G (ado 1) fnow ++ (wX0 G (ado 2) ftrial ++ (wX3 G (ado 8) fsightings))))) (Qi0 G (va_A (wX6 G ad ado f ++ (wX0 G (ado 1) fnow ++ (wX0 G (ado 2) ftrial ++ (wX3 G (ado 8) fsightings)))) sz) r (wX6 G ad ado f ++ (wX0 G (ado 1) fnow ++ (wX0 G (ado 2) ftrialz ++ (wX3 G (ado 8) fsightings))))) 0 0 (va_A (wX6 G ad ado f ++ (wX0 G (ado 1) fnow ++ (wX0 G (ado 2) ftrial ++ (wX3 G (ado 8) fsightings)))) sz) := by
  refine metP (Qf := fun A => Qi0 G A r (wX6 G ad ado f ++ (wX0 G (ado 1) fnow ++ (wX0 G (ado 2) ftrialz ++ (wX3 G (ado 8) fsightings))))) cX6_kindsAsSeen 4 (some .int) (by decide) rfl (Nat.le_of_ble_eq_true rfl) ?_
  intro p e s m below meth c A ls hC hr hlocks hin hE hA hsz hP hD hS hl
  generalize hargs : ([.ref (ad 0), .int x1] : List Value).toArray = args at hC ⊢
  obtain ⟨hx, hb, hml, hown, hts⟩ := id hC
  have hT : va_K G.1 vwCl (tyL G) s := hE.1
  have hRet : ∀ (r9 : Int32) (ftrial9 : Mem) (H : Heap) (locs : List Loc) (ls : Array Slot) (pc : Nat) (hK9 : (r9, ftrial9) = (r, ftrialz)) (hdg : decode cX6_kindsAsSeen pc = .ok (.ireturn, 1)), va_P G.1 vwCl (wX6 G ad ado f ++ (wX0 G (ado 1) fnow ++ (wX0 G (ado 2) ftrial9 ++ (wX3 G (ado 8) fsightings)))) H → va_D A (wX6 G ad ado f ++ (wX0 G (ado 1) fnow ++ (wX0 G (ado 2) ftrial9 ++ (wX3 G (ado 8) fsightings)))) → va_S A s.heap H locs → W p l e ({ frames := 5, cells := 0, slots := 0, locals := 132 }) s m args below meth c H locs 0 0 (MQ below (Qi0 G A r (wX6 G ad ado f ++ (wX0 G (ado 1) fnow ++ (wX0 G (ado 2) ftrialz ++ (wX3 G (ado 8) fsightings))))) args s 0 0 A) (F0 m pc ls [.int r9]) := by
    intro r9 ftrial9 H locs ls pc hK9 hdg hP hD hS
    cases hK9
    exact W.iret hx hb hr (fun t ht hW => ⟨⟨r, (), rfl, rfl, by rw [ht]; exact hP, hD⟩, hS.F ht⟩) hS.2.2 hdg hlocks
  generalize MQ below (Qi0 G A r (wX6 G ad ado f ++ (wX0 G (ado 1) fnow ++ (wX0 G (ado 2) ftrialz ++ (wX3 G (ado 8) fsightings))))) args s 0 0 A = Q at hRet ⊢
  have lk16 := hts (.fieldLink RX6 16 "FeatherShares" "trial" "LFeatherShares$Flock;") (by decide +kernel)
  have inX6 : ∀ w ∈ u_ws RX6 TX6 11, w ∈ wsX6_kindsAsSeen := by decide +kernel
  have lk12 := hts (.fieldLink RX6 12 "FeatherShares" "now" "LFeatherShares$Flock;") (by decide +kernel)
  have lk129 := va_Nw.use (A := args) rfl (hE.2.1 (RX6, 129, "FeatherShares$Flock", "kind", "[I", "FeatherShares") (List.mem_of_getElem? (i := 11) rfl))
  have inX0 : ∀ w ∈ u_ws RX0 TX0 13, w ∈ wsX6_kindsAsSeen := by decide +kernel
  have lk44 := hts (.fieldLink RX6 44 "FeatherShares" "sightings" "LFeatherShares$Sightings;") (by decide +kernel)
  have hl : lv_has ls 4 [(0, .ref (ad 0)), (1, .int x1)] := hl
  have hK0 : (r, ftrialz) = (r, ftrialz) := rfl
  obtain ⟨res, hres, hK⟩ : ∃ res, p_X6_kindsAsSeen f fnow ftrial fsightings x1 = some res ∧ res = (r, ftrialz) := ⟨_, hf, rfl⟩
  clear hf
  have hf := hres
  clear hres
  unfold p_X6_kindsAsSeen at hf
  refine lv_iconst (v := (nI 0)) hx hb dX6_kindsAsSeen_0 (ic_0) ?_
  refine lv_istore_n (lv' := [(2, .int (nI 0)), (0, .ref (ad 0)), (1, .int x1)]) hx hb dX6_kindsAsSeen_1 rfl hl (by decide) rfl (fun ls hl => ?_)
  refine lv_iconst (v := (nI 0)) hx hb dX6_kindsAsSeen_2 (ic_0) ?_
  refine lv_istore_n (lv' := [(3, .int (nI 0)), (2, .int (nI 0)), (0, .ref (ad 0)), (1, .int x1)]) hx hb dX6_kindsAsSeen_3 rfl hl (by decide) rfl (fun ls hl => ?_)
  obtain ⟨⟨y2_4, ftrial_4⟩, hlp, hf⟩ := bd_e hf
  refine lp_W1 (p_X6_kindsAsSeen_L4 f fnow fsightings x1) (fun z => match z with | (x2, x3, ftrial_) => ∀ (H : Heap) (locs : List Loc) (ls : Array Slot), va_P G.1 vwCl (wX6 G ad ado f ++ (wX0 G (ado 1) fnow ++ (wX0 G (ado 2) ftrial_ ++ (wX3 G (ado 8) fsightings)))) H → va_D A (wX6 G ad ado f ++ (wX0 G (ado 1) fnow ++ (wX0 G (ado 2) ftrial_ ++ (wX3 G (ado 8) fsightings)))) → va_S A s.heap H locs → lv_has ls 4 [(0, .ref (ad 0)), (1, .int x1), (2, .int x2), (3, .int x3)] → W p l e ({ frames := 5, cells := 0, slots := 0, locals := 132 }) s m args below meth c H locs 0 0 Q (F0 m 4 ls [])) (fun z => match z with | (y2_4, ftrial_4) => ∀ (H : Heap) (locs : List Loc) (ls : Array Slot), va_P G.1 vwCl (wX6 G ad ado f ++ (wX0 G (ado 1) fnow ++ (wX0 G (ado 2) ftrial_4 ++ (wX3 G (ado 8) fsightings)))) H → va_D A (wX6 G ad ado f ++ (wX0 G (ado 1) fnow ++ (wX0 G (ado 2) ftrial_4 ++ (wX3 G (ado 8) fsightings)))) → va_S A s.heap H locs → lv_has ls 4 [(2, .int y2_4)] → W p l e ({ frames := 5, cells := 0, slots := 0, locals := 132 }) s m args below meth c H locs 0 0 Q (F0 m 56 ls [])) ?_ hlp ?_ _ _ _ hP hD hS (lv_sub hl [2, 3, 1, 0] rfl)
  · clear hlp hf hK hP hD hS hl
    intro K4 hW4 hX4 
    rintro ⟨x2, x3, ftrial_⟩ res hf hK H locs ls hP hD hS hl
    unfold p_X6_kindsAsSeen_L4 at hf
    dsimp only at hf
    refine lv_iload_n hx hb dX6_kindsAsSeen_4 rfl (lv_at hl 3 rfl) ?_
    refine lv_iconst (v := (nI 4)) hx hb dX6_kindsAsSeen_5 (ic_4) ?_
    refine lv_icmp_ge (tgt := 56) hx hb dX6_kindsAsSeen_6 (by decide) (fun hc => ?_) (fun hc => ?_)
    · have hf := if_t hf hc
      have hK9 := K_of hf hK
      have hK9 := hX4 _ hK9
      exact hK9 _ _ _ hP hD hS (lv_sub hl [2] rfl)
    · have hf := if_f hf hc
      refine lv_aload_n hx hb dX6_kindsAsSeen_9 rfl (lv_at hl 0 rfl) ?_
      refine va_get (C := RX6) (T := TX6) (N := 11) (ci := 6) (v := .ref ((ado 2) 0)) hx hb hts inX6 hown hT hP 0 rfl rfl 1 (Nat.le_of_ble_eq_true rfl) lk16 (fun _ h => h) rfl dX6_kindsAsSeen_10 ?_
      refine lv_aload_n hx hb dX6_kindsAsSeen_13 rfl (lv_at hl 0 rfl) ?_
      refine va_get (C := RX6) (T := TX6) (N := 11) (ci := 6) (v := .ref ((ado 1) 0)) hx hb hts inX6 hown hT hP 0 rfl rfl 0 (Nat.le_of_ble_eq_true rfl) lk12 (fun _ h => h) rfl dX6_kindsAsSeen_14 ?_
      obtain ⟨ftrial_17, hc17, hf⟩ := bd_e hf
      refine cl_v_up (Wd := (wX6 G ad ado f ++ (wX0 G (ado 1) fnow ++ (wX0 G (ado 2) ftrial_ ++ (wX3 G (ado 8) fsightings))))) (Wc := (wX0 G (ado 2) ftrial_ ++ (wX0 G (ado 1) fnow))) (W' := (wX0 G (ado 2) ftrial_17 ++ (wX0 G (ado 1) fnow))) (W2 := (wX6 G ad ado f ++ (wX0 G (ado 1) fnow ++ (wX0 G (ado 2) ftrial_17 ++ (wX3 G (ado 8) fsightings))))) [15, 16, 17, 18, 19, 20, 21, 22, 23, 24, 25, 4, 5, 6, 7, 8, 9, 10, 11, 12, 13, 14] [0, 1, 2, 3, 26, 27, 28, 29, 30] rfl rfl rfl rfl rfl (va_runVN (As := [.ref ((ado 1) 0)]) (rest := []) hC (c_X0_copyFrom l G (ado 2) (ado 1) ftrial_ fnow ftrial_17 hc17 _) ⟨va_cnB 1 hts gX6_kindsAsSeen_X0_copyFrom_n93 rfl rfl rfl (hE.2.2 (RX6, 93, yX0_copyFrom, "FeatherShares") (List.mem_of_getElem? (i := 8) rfl)) (hts (.initialized RX0) (by decide +kernel)) (by decide +kernel) ⟨Nat.le_of_ble_eq_true rfl, Nat.le_of_ble_eq_true rfl⟩, hts (.instanceMethod yX0_copyFrom) (by decide +kernel), hts (.selects RX0 yX0_copyFrom yX0_copyFrom) (by decide +kernel)⟩ ⟨Pc0_blind, va_recv hT hP (q0 := 15) (ci := 0) rfl rfl, fun U hU hW => Pc0_at (Wd := (wX0 G (ado 2) ftrial_ ++ (wX0 G (ado 1) fnow))) hE (hP.subm [15, 16, 17, 18, 19, 20, 21, 22, 23, 24, 25, 4, 5, 6, 7, 8, 9, 10, 11, 12, 13, 14] rfl) (hD.sub [15, 16, 17, 18, 19, 20, 21, 22, 23, 24, 25, 4, 5, 6, 7, 8, 9, 10, 11, 12, 13, 14] (by decide) rfl) hU hW⟩ rfl rfl hl.1 rfl (lv_room (Nat.le_of_ble_eq_true rfl)) dX6_kindsAsSeen_17 ⟨Nat.zero_le _, Nat.zero_le _⟩) hS hA hP hD (fun H locs hP hD hS => ?_)
      refine lv_aload_n hx hb dX6_kindsAsSeen_20 rfl (lv_at hl 0 rfl) ?_
      refine va_get (C := RX6) (T := TX6) (N := 11) (ci := 6) (v := .ref ((ado 2) 0)) hx hb hts inX6 hown hT hP 0 rfl rfl 1 (Nat.le_of_ble_eq_true rfl) lk16 (fun _ h => h) rfl dX6_kindsAsSeen_21 ?_
      refine va_getN (C := RX0) (T := TX0) (N := 13) (ci := 0) (v := .ref ((ado 2) 1)) hx hb hts inX0 hown hT hP 15 rfl rfl 3 (Nat.le_of_ble_eq_true rfl) lk129 (fun _ h => h) rfl dX6_kindsAsSeen_24 ?_
      refine lv_iload_n hx hb dX6_kindsAsSeen_27 rfl (lv_at hl 1 rfl) ?_
      refine lv_iload_n hx hb dX6_kindsAsSeen_28 rfl (lv_at hl 3 rfl) ?_
      obtain ⟨hg, hf⟩ := gd_e hf
      refine va_iast (f := ftrial_17 1) hx hb hT hP hD hS 16 0 rfl rfl (inb_e hg) dX6_kindsAsSeen_29 (fun H locs hP hD hS => ?_)
      have hP : va_P G.1 vwCl (wX6 G ad ado f ++ (wX0 G (ado 1) fnow ++ (wX0 G (ado 2) (mrow 1 (upd (ftrial_17 1) x1.toNatClampNeg x3) ftrial_17) ++ (wX3 G (ado 8) fsightings)))) H := hP
      have hD : va_D A (wX6 G ad ado f ++ (wX0 G (ado 1) fnow ++ (wX0 G (ado 2) (mrow 1 (upd (ftrial_17 1) x1.toNatClampNeg x3) ftrial_17) ++ (wX3 G (ado 8) fsightings)))) := hD
      refine lv_aload_n hx hb dX6_kindsAsSeen_30 rfl (lv_at hl 0 rfl) ?_
      refine va_get (C := RX6) (T := TX6) (N := 11) (ci := 6) (v := .ref ((ado 8) 0)) hx hb hts inX6 hown hT hP 0 rfl rfl 6 (Nat.le_of_ble_eq_true rfl) lk44 (fun _ h => h) rfl dX6_kindsAsSeen_31 ?_
      refine lv_aload_n hx hb dX6_kindsAsSeen_34 rfl (lv_at hl 0 rfl) ?_
      refine va_get (C := RX6) (T := TX6) (N := 11) (ci := 6) (v := .ref ((ado 2) 0)) hx hb hts inX6 hown hT hP 0 rfl rfl 1 (Nat.le_of_ble_eq_true rfl) lk16 (fun _ h => h) rfl dX6_kindsAsSeen_35 ?_
      obtain ⟨⟨r38, ftrial_38⟩, hc38, hf⟩ := bd_e hf
      try dsimp only at hf
      refine cl_z_up (Wd := (wX6 G ad ado f ++ (wX0 G (ado 1) fnow ++ (wX0 G (ado 2) (mrow 1 (upd (ftrial_17 1) x1.toNatClampNeg x3) ftrial_17) ++ (wX3 G (ado 8) fsightings))))) (Wc := (wX3 G (ado 8) fsightings ++ (wX0 G (ado 2) (mrow 1 (upd (ftrial_17 1) x1.toNatClampNeg x3) ftrial_17)))) (W' := (wX3 G (ado 8) fsightings ++ (wX0 G (ado 2) ftrial_38))) (W2 := (wX6 G ad ado f ++ (wX0 G (ado 1) fnow ++ (wX0 G (ado 2) ftrial_38 ++ (wX3 G (ado 8) fsightings))))) [26, 27, 28, 29, 30, 15, 16, 17, 18, 19, 20, 21, 22, 23, 24, 25] [0, 1, 2, 3, 4, 5, 6, 7, 8, 9, 10, 11, 12, 13, 14] rfl rfl rfl rfl rfl (va_runVN (As := [.ref ((ado 2) 0)]) (rest := []) hC (c_X3_agreeWith l G (ado 8) (ado 2) fsightings (mrow 1 (upd (ftrial_17 1) x1.toNatClampNeg x3) ftrial_17) r38 ftrial_38 hc38 _) ⟨va_cnB 1 hts gX6_kindsAsSeen_X3_agreeWith_n270 rfl rfl rfl (hE.2.2 (RX6, 270, yX3_agreeWith, "FeatherShares") (List.mem_of_getElem? (i := 31) rfl)) (hts (.initialized RX3) (by decide +kernel)) (by decide +kernel) ⟨Nat.le_of_ble_eq_true rfl, Nat.le_of_ble_eq_true rfl⟩, hts (.instanceMethod yX3_agreeWith) (by decide +kernel), hts (.selects RX3 yX3_agreeWith yX3_agreeWith) (by decide +kernel)⟩ ⟨Pc0_blind, va_recv hT hP (q0 := 26) (ci := 3) rfl rfl, fun U hU hW => Pc0_at (Wd := (wX3 G (ado 8) fsightings ++ (wX0 G (ado 2) (mrow 1 (upd (ftrial_17 1) x1.toNatClampNeg x3) ftrial_17)))) hE (hP.subm [26, 27, 28, 29, 30, 15, 16, 17, 18, 19, 20, 21, 22, 23, 24, 25] rfl) (hD.sub [26, 27, 28, 29, 30, 15, 16, 17, 18, 19, 20, 21, 22, 23, 24, 25] (by decide) rfl) hU hW⟩ rfl rfl hl.1 rfl (lv_room (Nat.le_of_ble_eq_true rfl)) dX6_kindsAsSeen_38 ⟨Nat.zero_le _, Nat.zero_le _⟩) hS hA hP hD (fun H locs hn38 hP hD hS => ?_)
      refine lv_if_eq (tgt := 50) hx hb dX6_kindsAsSeen_41 (by decide) (fun hc => ?_) (fun hc => ?_)
      · have hf := if_t hf hc
        refine lv_iinc (v := (x3 + nI 1)) (lv' := [(3, .int (x3 + nI 1)), (0, .ref (ad 0)), (1, .int x1), (2, .int x2)]) hx hb dX6_kindsAsSeen_50 hl (k := 3) rfl (ii_x 1 _) (by decide) rfl (fun ls hl => ?_)
        refine lv_goto (tgt := 4) hx hb dX6_kindsAsSeen_53 (by decide) ?_
        have hK9 := K_of hf hK
        have hK9 := hW4 _ hK9
        exact hK9 _ _ _ hP hD hS (lv_sub hl [1, 2, 3, 0] rfl)
      · have hf := if_f hf hc
        refine lv_iload_n hx hb dX6_kindsAsSeen_44 rfl (lv_at hl 2 rfl) ?_
        refine lv_iconst (v := (nI 1)) hx hb dX6_kindsAsSeen_45 (ic_1) ?_
        refine lv_iload_n hx hb dX6_kindsAsSeen_46 rfl (lv_at hl 3 rfl) ?_
        refine lv_ishl hx hb dX6_kindsAsSeen_47 ?_
        refine lv_ior hx hb dX6_kindsAsSeen_48 ?_
        refine lv_istore_n (lv' := [(2, .int (x2 ||| ((nI 1) <<< (x3 &&& 31)))), (0, .ref (ad 0)), (1, .int x1), (3, .int x3)]) hx hb dX6_kindsAsSeen_49 rfl hl (by decide) rfl (fun ls hl => ?_)
        refine lv_iinc (v := (x3 + nI 1)) (lv' := [(3, .int (x3 + nI 1)), (2, .int (x2 ||| ((nI 1) <<< (x3 &&& 31)))), (0, .ref (ad 0)), (1, .int x1)]) hx hb dX6_kindsAsSeen_50 hl (k := 3) rfl (ii_x 1 _) (by decide) rfl (fun ls hl => ?_)
        refine lv_goto (tgt := 4) hx hb dX6_kindsAsSeen_53 (by decide) ?_
        have hK9 := K_of hf hK
        have hK9 := hW4 _ hK9
        exact hK9 _ _ _ hP hD hS (lv_sub hl [2, 3, 1, 0] rfl)
  · try dsimp only at hf
    show ∀ (H : Heap) (locs : List Loc) (ls : Array Slot), va_P G.1 vwCl (wX6 G ad ado f ++ (wX0 G (ado 1) fnow ++ (wX0 G (ado 2) ftrial_4 ++ (wX3 G (ado 8) fsightings)))) H → va_D A (wX6 G ad ado f ++ (wX0 G (ado 1) fnow ++ (wX0 G (ado 2) ftrial_4 ++ (wX3 G (ado 8) fsightings)))) → va_S A s.heap H locs → lv_has ls 4 [(2, .int y2_4)] → W p l e ({ frames := 5, cells := 0, slots := 0, locals := 132 }) s m args below meth c H locs 0 0 Q (F0 m 56 ls [])
    intro H locs ls hP hD hS hl
    refine lv_iload_n hx hb dX6_kindsAsSeen_56 rfl (lv_at hl 0 rfl) ?_
    have hK9 := K0_of hf hK
    exact hRet y2_4 ftrial_4 _ _ _ _ hK9 dX6_kindsAsSeen_57 hP hD hS
noncomputable def p_X6_kinds (f : Mem) (fnow : Mem) (ftrial : Mem) (fsightings : Mem) (x1 : Int32) : Option (Int32 × Mem) :=
  Option.bind (p_X0_hasGoose fnow x1) <| fun r5 =>
  if r5 = 0 then
    (some ((-1 : Int32), ftrial))
  else
    (Option.bind (p_X6_kindsAsSeen f fnow ftrial fsightings x1) <| fun (r13, ftrial_13) =>
     some (r13, ftrial_13))
set_option maxHeartbeats 4000000 in
set_option maxRecDepth 100000 in
theorem c_X6_kinds (l : Launch) (G : Gt) (ad : Nat → Nat) (ado : Nat → Nat → Nat) (f : Mem) (fnow : Mem) (ftrial : Mem) (fsightings : Mem) (x1 : Int32) (r : Int32) (ftrialz : Mem) (hf : p_X6_kinds f fnow ftrial fsightings x1 = some (r, ftrialz)) (sz : Nat) : Met l yX6_kinds wsX6_kinds ({ frames := 6, cells := 0, slots := 0, locals := 155 }) (Pc0 G sz [.ref (ad 0), .int x1] (wX6 G ad ado f ++ (wX0 G (ado 1) fnow ++ (wX0 G (ado 2) ftrial ++ (wX3 G (ado 8) fsightings))))) (Qi0 G (va_A (wX6 G ad ado f ++ (wX0 G (ado 1) fnow ++ (wX0 G (ado 2) ftrial ++ (wX3 G (ado 8) fsightings)))) sz) r (wX6 G ad ado f ++ (wX0 G (ado 1) fnow ++ (wX0 G (ado 2) ftrialz ++ (wX3 G (ado 8) fsightings))))) 0 0 (va_A (wX6 G ad ado f ++ (wX0 G (ado 1) fnow ++ (wX0 G (ado 2) ftrial ++ (wX3 G (ado 8) fsightings)))) sz) := by
  refine metP (Qf := fun A => Qi0 G A r (wX6 G ad ado f ++ (wX0 G (ado 1) fnow ++ (wX0 G (ado 2) ftrialz ++ (wX3 G (ado 8) fsightings))))) cX6_kinds 2 (some .int) (by decide) rfl (Nat.le_of_ble_eq_true rfl) ?_
  intro p e s m below meth c A ls hC hr hlocks hin hE hA hsz hP hD hS hl
  generalize hargs : ([.ref (ad 0), .int x1] : List Value).toArray = args at hC ⊢
  obtain ⟨hx, hb, hml, hown, hts⟩ := id hC
  have hT : va_K G.1 vwCl (tyL G) s := hE.1
  have hRet : ∀ (r9 : Int32) (ftrial9 : Mem) (H : Heap) (locs : List Loc) (ls : Array Slot) (pc : Nat) (hK9 : (r9, ftrial9) = (r, ftrialz)) (hdg : decode cX6_kinds pc = .ok (.ireturn, 1)), va_P G.1 vwCl (wX6 G ad ado f ++ (wX0 G (ado 1) fnow ++ (wX0 G (ado 2) ftrial9 ++ (wX3 G (ado 8) fsightings)))) H → va_D A (wX6 G ad ado f ++ (wX0 G (ado 1) fnow ++ (wX0 G (ado 2) ftrial9 ++ (wX3 G (ado 8) fsightings)))) → va_S A s.heap H locs → W p l e ({ frames := 6, cells := 0, slots := 0, locals := 155 }) s m args below meth c H locs 0 0 (MQ below (Qi0 G A r (wX6 G ad ado f ++ (wX0 G (ado 1) fnow ++ (wX0 G (ado 2) ftrialz ++ (wX3 G (ado 8) fsightings))))) args s 0 0 A) (F0 m pc ls [.int r9]) := by
    intro r9 ftrial9 H locs ls pc hK9 hdg hP hD hS
    cases hK9
    exact W.iret hx hb hr (fun t ht hW => ⟨⟨r, (), rfl, rfl, by rw [ht]; exact hP, hD⟩, hS.F ht⟩) hS.2.2 hdg hlocks
  generalize MQ below (Qi0 G A r (wX6 G ad ado f ++ (wX0 G (ado 1) fnow ++ (wX0 G (ado 2) ftrialz ++ (wX3 G (ado 8) fsightings))))) args s 0 0 A = Q at hRet ⊢
  have lk12 := hts (.fieldLink RX6 12 "FeatherShares" "now" "LFeatherShares$Flock;") (by decide +kernel)
  have inX6 : ∀ w ∈ u_ws RX6 TX6 11, w ∈ wsX6_kinds := by decide +kernel
  have hl : lv_has ls 2 [(0, .ref (ad 0)), (1, .int x1)] := hl
  have hK0 : (r, ftrialz) = (r, ftrialz) := rfl
  obtain ⟨res, hres, hK⟩ : ∃ res, p_X6_kinds f fnow ftrial fsightings x1 = some res ∧ res = (r, ftrialz) := ⟨_, hf, rfl⟩
  clear hf
  have hf := hres
  clear hres
  unfold p_X6_kinds at hf
  refine lv_aload_n hx hb dX6_kinds_0 rfl (lv_at hl 0 rfl) ?_
  refine va_get (C := RX6) (T := TX6) (N := 11) (ci := 6) (v := .ref ((ado 1) 0)) hx hb hts inX6 hown hT hP 0 rfl rfl 0 (Nat.le_of_ble_eq_true rfl) lk12 (fun _ h => h) rfl dX6_kinds_1 ?_
  refine lv_iload_n hx hb dX6_kinds_4 rfl (lv_at hl 1 rfl) ?_
  obtain ⟨r5, hc5, hf⟩ := bd_e hf
  refine cl_z_ro (Wd := (wX6 G ad ado f ++ (wX0 G (ado 1) fnow ++ (wX0 G (ado 2) ftrial ++ (wX3 G (ado 8) fsightings))))) (Wc := (wX0 G (ado 1) fnow)) [4, 5, 6, 7, 8, 9, 10, 11, 12, 13, 14] rfl (va_runVN (As := [.int x1]) (rest := []) hC (c_X0_hasGoose l G (ado 1) fnow x1 r5 hc5 _) ⟨va_cnB 1 hts gX6_kinds_X0_hasGoose_n126 rfl rfl rfl (hE.2.2 (RX6, 126, yX0_hasGoose, "FeatherShares") (List.mem_of_getElem? (i := 10) rfl)) (hts (.initialized RX0) (by decide +kernel)) (by decide +kernel) ⟨Nat.le_of_ble_eq_true rfl, Nat.le_of_ble_eq_true rfl⟩, hts (.instanceMethod yX0_hasGoose) (by decide +kernel), hts (.selects RX0 yX0_hasGoose yX0_hasGoose) (by decide +kernel)⟩ ⟨Pc0_blind, va_recv hT hP (q0 := 4) (ci := 0) rfl rfl, fun U hU hW => Pc0_at (Wd := (wX0 G (ado 1) fnow)) hE (hP.subm [4, 5, 6, 7, 8, 9, 10, 11, 12, 13, 14] rfl) (hD.sub [4, 5, 6, 7, 8, 9, 10, 11, 12, 13, 14] (by decide) rfl) hU hW⟩ rfl rfl hl.1 rfl (lv_room (Nat.le_of_ble_eq_true rfl)) dX6_kinds_5 ⟨Nat.zero_le _, Nat.zero_le _⟩) hS hA hP hD (fun H locs hn5 hP hD hS => ?_)
  refine lv_if_eq (tgt := 19) hx hb dX6_kinds_8 (by decide) (fun hc => ?_) (fun hc => ?_)
  · have hf := if_t hf hc
    refine lv_iconst (v := (-1 : Int32)) hx hb dX6_kinds_19 (ic_m1) ?_
    have hK9 := K0_of hf hK
    exact hRet (-1 : Int32) ftrial _ _ _ _ hK9 dX6_kinds_20 hP hD hS
  · have hf := if_f hf hc
    refine lv_aload_n hx hb dX6_kinds_11 rfl (lv_at hl 0 rfl) ?_
    refine lv_iload_n hx hb dX6_kinds_12 rfl (lv_at hl 1 rfl) ?_
    obtain ⟨⟨r13, ftrial_13⟩, hc13, hf⟩ := bd_e hf
    try dsimp only at hf
    refine cl_i_same (Wd := (wX6 G ad ado f ++ (wX0 G (ado 1) fnow ++ (wX0 G (ado 2) ftrial ++ (wX3 G (ado 8) fsightings))))) (W' := (wX6 G ad ado f ++ (wX0 G (ado 1) fnow ++ (wX0 G (ado 2) ftrial_13 ++ (wX3 G (ado 8) fsightings))))) (va_runV (As := [.int x1]) (rest := []) hC (c_X6_kindsAsSeen l G ad ado f fnow ftrial fsightings x1 r13 ftrial_13 hc13 _) (cwV 1 hts gX6_kinds_X6_kindsAsSeen rfl rfl rfl (by decide +kernel) ⟨Nat.le_of_ble_eq_true rfl, Nat.le_of_ble_eq_true rfl⟩) ⟨Pc0_blind, va_recv hT hP (q0 := 0) (ci := 6) rfl rfl, fun U hU hW => Pc0_at hE hP hD hU hW⟩ rfl rfl hl.1 rfl (lv_room (Nat.le_of_ble_eq_true rfl)) dX6_kinds_13 ⟨Nat.zero_le _, Nat.zero_le _⟩) hS hA hD (fun H locs hP hD hS => ?_)
    refine lv_goto (tgt := 20) hx hb dX6_kinds_16 (by decide) ?_
    have hK9 := K0_of hf hK
    exact hRet r13 ftrial_13 _ _ _ _ hK9 dX6_kinds_20 hP hD hS
noncomputable def p_X6_skins_L17 (f : Mem) (fnow : Mem) (fsightings : Mem) (x1 : Int32) (z : Int32 × Int32 × Mem) : Option ((Int32 × Int32 × Mem) ⊕ (Int32 × Mem)) :=
  match z with
  | (x2, x3, ftrial_) =>
    if (nI 5) ≤ x3 then
      (some (Sum.inr (x2, ftrial_)))
    else
      (Option.bind (p_X0_copyFrom ftrial_ fnow) <| fun ftrial_30 =>
       gd (inb x1 3) <|
       Option.bind (p_X3_agreeWith fsightings (mrow 2 (upd (ftrial_30 2) x1.toNatClampNeg x3) ftrial_30)) <| fun (r51, ftrial_51) =>
       if r51 = 0 then
         (some (Sum.inl (x2, (x3 + nI 1), ftrial_51)))
       else
         (some (Sum.inl ((x2 ||| ((nI 1) <<< (x3 &&& 31))), (x3 + nI 1), ftrial_51))))
noncomputable def p_X6_skins (f : Mem) (fnow : Mem) (ftrial : Mem) (fsightings : Mem) (x1 : Int32) : Option (Int32 × Mem) :=
  Option.bind (p_X0_hasGoose fnow x1) <| fun r5 =>
  if r5 = 0 then
    (some ((-1 : Int32), ftrial))
  else
    (Option.bind (lp (p_X6_skins_L17 f fnow fsightings x1) ((nI 0), (nI 0), ftrial)) <| fun (y2_17, ftrial_17) =>
     some (y2_17, ftrial_17))
set_option maxHeartbeats 4000000 in
set_option maxRecDepth 100000 in
theorem c_X6_skins (l : Launch) (G : Gt) (ad : Nat → Nat) (ado : Nat → Nat → Nat) (f : Mem) (fnow : Mem) (ftrial : Mem) (fsightings : Mem) (x1 : Int32) (r : Int32) (ftrialz : Mem) (hf : p_X6_skins f fnow ftrial fsightings x1 = some (r, ftrialz)) (sz : Nat) : Met l yX6_skins wsX6_skins ({ frames := 5, cells := 0, slots := 0, locals := 132 }) (Pc0 G sz [.ref (ad 0), .int x1] (wX6 G ad ado f ++ (wX0 G (ado 1) fnow ++ (wX0 G (ado 2) ftrial ++ (wX3 G (ado 8) fsightings))))) (Qi0 G (va_A (wX6 G ad ado f ++ (wX0 G (ado 1) fnow ++ (wX0 G (ado 2) ftrial ++ (wX3 G (ado 8) fsightings)))) sz) r (wX6 G ad ado f ++ (wX0 G (ado 1) fnow ++ (wX0 G (ado 2) ftrialz ++ (wX3 G (ado 8) fsightings))))) 0 0 (va_A (wX6 G ad ado f ++ (wX0 G (ado 1) fnow ++ (wX0 G (ado 2) ftrial ++ (wX3 G (ado 8) fsightings)))) sz) := by
  refine metP (Qf := fun A => Qi0 G A r (wX6 G ad ado f ++ (wX0 G (ado 1) fnow ++ (wX0 G (ado 2) ftrialz ++ (wX3 G (ado 8) fsightings))))) cX6_skins 4 (some .int) (by decide) rfl (Nat.le_of_ble_eq_true rfl) ?_
  intro p e s m below meth c A ls hC hr hlocks hin hE hA hsz hP hD hS hl
  generalize hargs : ([.ref (ad 0), .int x1] : List Value).toArray = args at hC ⊢
  obtain ⟨hx, hb, hml, hown, hts⟩ := id hC
  have hT : va_K G.1 vwCl (tyL G) s := hE.1
  have hRet : ∀ (r9 : Int32) (ftrial9 : Mem) (H : Heap) (locs : List Loc) (ls : Array Slot) (pc : Nat) (hK9 : (r9, ftrial9) = (r, ftrialz)) (hdg : decode cX6_skins pc = .ok (.ireturn, 1)), va_P G.1 vwCl (wX6 G ad ado f ++ (wX0 G (ado 1) fnow ++ (wX0 G (ado 2) ftrial9 ++ (wX3 G (ado 8) fsightings)))) H → va_D A (wX6 G ad ado f ++ (wX0 G (ado 1) fnow ++ (wX0 G (ado 2) ftrial9 ++ (wX3 G (ado 8) fsightings)))) → va_S A s.heap H locs → W p l e ({ frames := 5, cells := 0, slots := 0, locals := 132 }) s m args below meth c H locs 0 0 (MQ below (Qi0 G A r (wX6 G ad ado f ++ (wX0 G (ado 1) fnow ++ (wX0 G (ado 2) ftrialz ++ (wX3 G (ado 8) fsightings))))) args s 0 0 A) (F0 m pc ls [.int r9]) := by
    intro r9 ftrial9 H locs ls pc hK9 hdg hP hD hS
    cases hK9
    exact W.iret hx hb hr (fun t ht hW => ⟨⟨r, (), rfl, rfl, by rw [ht]; exact hP, hD⟩, hS.F ht⟩) hS.2.2 hdg hlocks
  generalize MQ below (Qi0 G A r (wX6 G ad ado f ++ (wX0 G (ado 1) fnow ++ (wX0 G (ado 2) ftrialz ++ (wX3 G (ado 8) fsightings))))) args s 0 0 A = Q at hRet ⊢
  have lk12 := hts (.fieldLink RX6 12 "FeatherShares" "now" "LFeatherShares$Flock;") (by decide +kernel)
  have inX6 : ∀ w ∈ u_ws RX6 TX6 11, w ∈ wsX6_skins := by decide +kernel
  have lk16 := hts (.fieldLink RX6 16 "FeatherShares" "trial" "LFeatherShares$Flock;") (by decide +kernel)
  have lk132 := va_Nw.use (A := args) rfl (hE.2.1 (RX6, 132, "FeatherShares$Flock", "skin", "[I", "FeatherShares") (List.mem_of_getElem? (i := 12) rfl))
  have inX0 : ∀ w ∈ u_ws RX0 TX0 13, w ∈ wsX6_skins := by decide +kernel
  have lk44 := hts (.fieldLink RX6 44 "FeatherShares" "sightings" "LFeatherShares$Sightings;") (by decide +kernel)
  have hl : lv_has ls 4 [(0, .ref (ad 0)), (1, .int x1)] := hl
  have hK0 : (r, ftrialz) = (r, ftrialz) := rfl
  obtain ⟨res, hres, hK⟩ : ∃ res, p_X6_skins f fnow ftrial fsightings x1 = some res ∧ res = (r, ftrialz) := ⟨_, hf, rfl⟩
  clear hf
  have hf := hres
  clear hres
  unfold p_X6_skins at hf
  refine lv_aload_n hx hb dX6_skins_0 rfl (lv_at hl 0 rfl) ?_
  refine va_get (C := RX6) (T := TX6) (N := 11) (ci := 6) (v := .ref ((ado 1) 0)) hx hb hts inX6 hown hT hP 0 rfl rfl 0 (Nat.le_of_ble_eq_true rfl) lk12 (fun _ h => h) rfl dX6_skins_1 ?_
  refine lv_iload_n hx hb dX6_skins_4 rfl (lv_at hl 1 rfl) ?_
  obtain ⟨r5, hc5, hf⟩ := bd_e hf
  refine cl_z_ro (Wd := (wX6 G ad ado f ++ (wX0 G (ado 1) fnow ++ (wX0 G (ado 2) ftrial ++ (wX3 G (ado 8) fsightings))))) (Wc := (wX0 G (ado 1) fnow)) [4, 5, 6, 7, 8, 9, 10, 11, 12, 13, 14] rfl (va_runVN (As := [.int x1]) (rest := []) hC (c_X0_hasGoose l G (ado 1) fnow x1 r5 hc5 _) ⟨va_cnB 1 hts gX6_skins_X0_hasGoose_n126 rfl rfl rfl (hE.2.2 (RX6, 126, yX0_hasGoose, "FeatherShares") (List.mem_of_getElem? (i := 10) rfl)) (hts (.initialized RX0) (by decide +kernel)) (by decide +kernel) ⟨Nat.le_of_ble_eq_true rfl, Nat.le_of_ble_eq_true rfl⟩, hts (.instanceMethod yX0_hasGoose) (by decide +kernel), hts (.selects RX0 yX0_hasGoose yX0_hasGoose) (by decide +kernel)⟩ ⟨Pc0_blind, va_recv hT hP (q0 := 4) (ci := 0) rfl rfl, fun U hU hW => Pc0_at (Wd := (wX0 G (ado 1) fnow)) hE (hP.subm [4, 5, 6, 7, 8, 9, 10, 11, 12, 13, 14] rfl) (hD.sub [4, 5, 6, 7, 8, 9, 10, 11, 12, 13, 14] (by decide) rfl) hU hW⟩ rfl rfl hl.1 rfl (lv_room (Nat.le_of_ble_eq_true rfl)) dX6_skins_5 ⟨Nat.zero_le _, Nat.zero_le _⟩) hS hA hP hD (fun H locs hn5 hP hD hS => ?_)
  refine lv_if_ne (tgt := 13) hx hb dX6_skins_8 (by decide) (fun hc => ?_) (fun hc => ?_)
  · have hf := if_f hf hc
    refine lv_iconst (v := (nI 0)) hx hb dX6_skins_13 (ic_0) ?_
    refine lv_istore_n (lv' := [(2, .int (nI 0)), (0, .ref (ad 0)), (1, .int x1)]) hx hb dX6_skins_14 rfl hl (by decide) rfl (fun ls hl => ?_)
    refine lv_iconst (v := (nI 0)) hx hb dX6_skins_15 (ic_0) ?_
    refine lv_istore_n (lv' := [(3, .int (nI 0)), (2, .int (nI 0)), (0, .ref (ad 0)), (1, .int x1)]) hx hb dX6_skins_16 rfl hl (by decide) rfl (fun ls hl => ?_)
    obtain ⟨⟨y2_17, ftrial_17⟩, hlp, hf⟩ := bd_e hf
    refine lp_W1 (p_X6_skins_L17 f fnow fsightings x1) (fun z => match z with | (x2, x3, ftrial_) => ∀ (H : Heap) (locs : List Loc) (ls : Array Slot), va_P G.1 vwCl (wX6 G ad ado f ++ (wX0 G (ado 1) fnow ++ (wX0 G (ado 2) ftrial_ ++ (wX3 G (ado 8) fsightings)))) H → va_D A (wX6 G ad ado f ++ (wX0 G (ado 1) fnow ++ (wX0 G (ado 2) ftrial_ ++ (wX3 G (ado 8) fsightings)))) → va_S A s.heap H locs → lv_has ls 4 [(0, .ref (ad 0)), (1, .int x1), (2, .int x2), (3, .int x3)] → W p l e ({ frames := 5, cells := 0, slots := 0, locals := 132 }) s m args below meth c H locs 0 0 Q (F0 m 17 ls [])) (fun z => match z with | (y2_17, ftrial_17) => ∀ (H : Heap) (locs : List Loc) (ls : Array Slot), va_P G.1 vwCl (wX6 G ad ado f ++ (wX0 G (ado 1) fnow ++ (wX0 G (ado 2) ftrial_17 ++ (wX3 G (ado 8) fsightings)))) H → va_D A (wX6 G ad ado f ++ (wX0 G (ado 1) fnow ++ (wX0 G (ado 2) ftrial_17 ++ (wX3 G (ado 8) fsightings)))) → va_S A s.heap H locs → lv_has ls 4 [(2, .int y2_17)] → W p l e ({ frames := 5, cells := 0, slots := 0, locals := 132 }) s m args below meth c H locs 0 0 Q (F0 m 69 ls [])) ?_ hlp ?_ _ _ _ hP hD hS (lv_sub hl [2, 3, 1, 0] rfl)
    · clear hlp hf hK hP hD hS hl
      intro K17 hW17 hX17 
      rintro ⟨x2, x3, ftrial_⟩ res hf hK H locs ls hP hD hS hl
      unfold p_X6_skins_L17 at hf
      dsimp only at hf
      refine lv_iload_n hx hb dX6_skins_17 rfl (lv_at hl 3 rfl) ?_
      refine lv_iconst (v := (nI 5)) hx hb dX6_skins_18 (ic_5) ?_
      refine lv_icmp_ge (tgt := 69) hx hb dX6_skins_19 (by decide) (fun hc => ?_) (fun hc => ?_)
      · have hf := if_t hf hc
        have hK9 := K_of hf hK
        have hK9 := hX17 _ hK9
        exact hK9 _ _ _ hP hD hS (lv_sub hl [2] rfl)
      · have hf := if_f hf hc
        refine lv_aload_n hx hb dX6_skins_22 rfl (lv_at hl 0 rfl) ?_
        refine va_get (C := RX6) (T := TX6) (N := 11) (ci := 6) (v := .ref ((ado 2) 0)) hx hb hts inX6 hown hT hP 0 rfl rfl 1 (Nat.le_of_ble_eq_true rfl) lk16 (fun _ h => h) rfl dX6_skins_23 ?_
        refine lv_aload_n hx hb dX6_skins_26 rfl (lv_at hl 0 rfl) ?_
        refine va_get (C := RX6) (T := TX6) (N := 11) (ci := 6) (v := .ref ((ado 1) 0)) hx hb hts inX6 hown hT hP 0 rfl rfl 0 (Nat.le_of_ble_eq_true rfl) lk12 (fun _ h => h) rfl dX6_skins_27 ?_
        obtain ⟨ftrial_30, hc30, hf⟩ := bd_e hf
        refine cl_v_up (Wd := (wX6 G ad ado f ++ (wX0 G (ado 1) fnow ++ (wX0 G (ado 2) ftrial_ ++ (wX3 G (ado 8) fsightings))))) (Wc := (wX0 G (ado 2) ftrial_ ++ (wX0 G (ado 1) fnow))) (W' := (wX0 G (ado 2) ftrial_30 ++ (wX0 G (ado 1) fnow))) (W2 := (wX6 G ad ado f ++ (wX0 G (ado 1) fnow ++ (wX0 G (ado 2) ftrial_30 ++ (wX3 G (ado 8) fsightings))))) [15, 16, 17, 18, 19, 20, 21, 22, 23, 24, 25, 4, 5, 6, 7, 8, 9, 10, 11, 12, 13, 14] [0, 1, 2, 3, 26, 27, 28, 29, 30] rfl rfl rfl rfl rfl (va_runVN (As := [.ref ((ado 1) 0)]) (rest := []) hC (c_X0_copyFrom l G (ado 2) (ado 1) ftrial_ fnow ftrial_30 hc30 _) ⟨va_cnB 1 hts gX6_skins_X0_copyFrom_n93 rfl rfl rfl (hE.2.2 (RX6, 93, yX0_copyFrom, "FeatherShares") (List.mem_of_getElem? (i := 8) rfl)) (hts (.initialized RX0) (by decide +kernel)) (by decide +kernel) ⟨Nat.le_of_ble_eq_true rfl, Nat.le_of_ble_eq_true rfl⟩, hts (.instanceMethod yX0_copyFrom) (by decide +kernel), hts (.selects RX0 yX0_copyFrom yX0_copyFrom) (by decide +kernel)⟩ ⟨Pc0_blind, va_recv hT hP (q0 := 15) (ci := 0) rfl rfl, fun U hU hW => Pc0_at (Wd := (wX0 G (ado 2) ftrial_ ++ (wX0 G (ado 1) fnow))) hE (hP.subm [15, 16, 17, 18, 19, 20, 21, 22, 23, 24, 25, 4, 5, 6, 7, 8, 9, 10, 11, 12, 13, 14] rfl) (hD.sub [15, 16, 17, 18, 19, 20, 21, 22, 23, 24, 25, 4, 5, 6, 7, 8, 9, 10, 11, 12, 13, 14] (by decide) rfl) hU hW⟩ rfl rfl hl.1 rfl (lv_room (Nat.le_of_ble_eq_true rfl)) dX6_skins_30 ⟨Nat.zero_le _, Nat.zero_le _⟩) hS hA hP hD (fun H locs hP hD hS => ?_)
        refine lv_aload_n hx hb dX6_skins_33 rfl (lv_at hl 0 rfl) ?_
        refine va_get (C := RX6) (T := TX6) (N := 11) (ci := 6) (v := .ref ((ado 2) 0)) hx hb hts inX6 hown hT hP 0 rfl rfl 1 (Nat.le_of_ble_eq_true rfl) lk16 (fun _ h => h) rfl dX6_skins_34 ?_
        refine va_getN (C := RX0) (T := TX0) (N := 13) (ci := 0) (v := .ref ((ado 2) 2)) hx hb hts inX0 hown hT hP 15 rfl rfl 4 (Nat.le_of_ble_eq_true rfl) lk132 (fun _ h => h) rfl dX6_skins_37 ?_
        refine lv_iload_n hx hb dX6_skins_40 rfl (lv_at hl 1 rfl) ?_
        refine lv_iload_n hx hb dX6_skins_41 rfl (lv_at hl 3 rfl) ?_
        obtain ⟨hg, hf⟩ := gd_e hf
        refine va_iast (f := ftrial_30 2) hx hb hT hP hD hS 17 0 rfl rfl (inb_e hg) dX6_skins_42 (fun H locs hP hD hS => ?_)
        have hP : va_P G.1 vwCl (wX6 G ad ado f ++ (wX0 G (ado 1) fnow ++ (wX0 G (ado 2) (mrow 2 (upd (ftrial_30 2) x1.toNatClampNeg x3) ftrial_30) ++ (wX3 G (ado 8) fsightings)))) H := hP
        have hD : va_D A (wX6 G ad ado f ++ (wX0 G (ado 1) fnow ++ (wX0 G (ado 2) (mrow 2 (upd (ftrial_30 2) x1.toNatClampNeg x3) ftrial_30) ++ (wX3 G (ado 8) fsightings)))) := hD
        refine lv_aload_n hx hb dX6_skins_43 rfl (lv_at hl 0 rfl) ?_
        refine va_get (C := RX6) (T := TX6) (N := 11) (ci := 6) (v := .ref ((ado 8) 0)) hx hb hts inX6 hown hT hP 0 rfl rfl 6 (Nat.le_of_ble_eq_true rfl) lk44 (fun _ h => h) rfl dX6_skins_44 ?_
        refine lv_aload_n hx hb dX6_skins_47 rfl (lv_at hl 0 rfl) ?_
        refine va_get (C := RX6) (T := TX6) (N := 11) (ci := 6) (v := .ref ((ado 2) 0)) hx hb hts inX6 hown hT hP 0 rfl rfl 1 (Nat.le_of_ble_eq_true rfl) lk16 (fun _ h => h) rfl dX6_skins_48 ?_
        obtain ⟨⟨r51, ftrial_51⟩, hc51, hf⟩ := bd_e hf
        try dsimp only at hf
        refine cl_z_up (Wd := (wX6 G ad ado f ++ (wX0 G (ado 1) fnow ++ (wX0 G (ado 2) (mrow 2 (upd (ftrial_30 2) x1.toNatClampNeg x3) ftrial_30) ++ (wX3 G (ado 8) fsightings))))) (Wc := (wX3 G (ado 8) fsightings ++ (wX0 G (ado 2) (mrow 2 (upd (ftrial_30 2) x1.toNatClampNeg x3) ftrial_30)))) (W' := (wX3 G (ado 8) fsightings ++ (wX0 G (ado 2) ftrial_51))) (W2 := (wX6 G ad ado f ++ (wX0 G (ado 1) fnow ++ (wX0 G (ado 2) ftrial_51 ++ (wX3 G (ado 8) fsightings))))) [26, 27, 28, 29, 30, 15, 16, 17, 18, 19, 20, 21, 22, 23, 24, 25] [0, 1, 2, 3, 4, 5, 6, 7, 8, 9, 10, 11, 12, 13, 14] rfl rfl rfl rfl rfl (va_runVN (As := [.ref ((ado 2) 0)]) (rest := []) hC (c_X3_agreeWith l G (ado 8) (ado 2) fsightings (mrow 2 (upd (ftrial_30 2) x1.toNatClampNeg x3) ftrial_30) r51 ftrial_51 hc51 _) ⟨va_cnB 1 hts gX6_skins_X3_agreeWith_n270 rfl rfl rfl (hE.2.2 (RX6, 270, yX3_agreeWith, "FeatherShares") (List.mem_of_getElem? (i := 31) rfl)) (hts (.initialized RX3) (by decide +kernel)) (by decide +kernel) ⟨Nat.le_of_ble_eq_true rfl, Nat.le_of_ble_eq_true rfl⟩, hts (.instanceMethod yX3_agreeWith) (by decide +kernel), hts (.selects RX3 yX3_agreeWith yX3_agreeWith) (by decide +kernel)⟩ ⟨Pc0_blind, va_recv hT hP (q0 := 26) (ci := 3) rfl rfl, fun U hU hW => Pc0_at (Wd := (wX3 G (ado 8) fsightings ++ (wX0 G (ado 2) (mrow 2 (upd (ftrial_30 2) x1.toNatClampNeg x3) ftrial_30)))) hE (hP.subm [26, 27, 28, 29, 30, 15, 16, 17, 18, 19, 20, 21, 22, 23, 24, 25] rfl) (hD.sub [26, 27, 28, 29, 30, 15, 16, 17, 18, 19, 20, 21, 22, 23, 24, 25] (by decide) rfl) hU hW⟩ rfl rfl hl.1 rfl (lv_room (Nat.le_of_ble_eq_true rfl)) dX6_skins_51 ⟨Nat.zero_le _, Nat.zero_le _⟩) hS hA hP hD (fun H locs hn51 hP hD hS => ?_)
        refine lv_if_eq (tgt := 63) hx hb dX6_skins_54 (by decide) (fun hc => ?_) (fun hc => ?_)
        · have hf := if_t hf hc
          refine lv_iinc (v := (x3 + nI 1)) (lv' := [(3, .int (x3 + nI 1)), (0, .ref (ad 0)), (1, .int x1), (2, .int x2)]) hx hb dX6_skins_63 hl (k := 3) rfl (ii_x 1 _) (by decide) rfl (fun ls hl => ?_)
          refine lv_goto (tgt := 17) hx hb dX6_skins_66 (by decide) ?_
          have hK9 := K_of hf hK
          have hK9 := hW17 _ hK9
          exact hK9 _ _ _ hP hD hS (lv_sub hl [1, 2, 3, 0] rfl)
        · have hf := if_f hf hc
          refine lv_iload_n hx hb dX6_skins_57 rfl (lv_at hl 2 rfl) ?_
          refine lv_iconst (v := (nI 1)) hx hb dX6_skins_58 (ic_1) ?_
          refine lv_iload_n hx hb dX6_skins_59 rfl (lv_at hl 3 rfl) ?_
          refine lv_ishl hx hb dX6_skins_60 ?_
          refine lv_ior hx hb dX6_skins_61 ?_
          refine lv_istore_n (lv' := [(2, .int (x2 ||| ((nI 1) <<< (x3 &&& 31)))), (0, .ref (ad 0)), (1, .int x1), (3, .int x3)]) hx hb dX6_skins_62 rfl hl (by decide) rfl (fun ls hl => ?_)
          refine lv_iinc (v := (x3 + nI 1)) (lv' := [(3, .int (x3 + nI 1)), (2, .int (x2 ||| ((nI 1) <<< (x3 &&& 31)))), (0, .ref (ad 0)), (1, .int x1)]) hx hb dX6_skins_63 hl (k := 3) rfl (ii_x 1 _) (by decide) rfl (fun ls hl => ?_)
          refine lv_goto (tgt := 17) hx hb dX6_skins_66 (by decide) ?_
          have hK9 := K_of hf hK
          have hK9 := hW17 _ hK9
          exact hK9 _ _ _ hP hD hS (lv_sub hl [2, 3, 1, 0] rfl)
    · try dsimp only at hf
      show ∀ (H : Heap) (locs : List Loc) (ls : Array Slot), va_P G.1 vwCl (wX6 G ad ado f ++ (wX0 G (ado 1) fnow ++ (wX0 G (ado 2) ftrial_17 ++ (wX3 G (ado 8) fsightings)))) H → va_D A (wX6 G ad ado f ++ (wX0 G (ado 1) fnow ++ (wX0 G (ado 2) ftrial_17 ++ (wX3 G (ado 8) fsightings)))) → va_S A s.heap H locs → lv_has ls 4 [(2, .int y2_17)] → W p l e ({ frames := 5, cells := 0, slots := 0, locals := 132 }) s m args below meth c H locs 0 0 Q (F0 m 69 ls [])
      intro H locs ls hP hD hS hl
      refine lv_iload_n hx hb dX6_skins_69 rfl (lv_at hl 0 rfl) ?_
      have hK9 := K0_of hf hK
      exact hRet y2_17 ftrial_17 _ _ _ _ hK9 dX6_skins_70 hP hD hS
  · have hf := if_t hf hc
    refine lv_iconst (v := (-1 : Int32)) hx hb dX6_skins_11 (ic_m1) ?_
    have hK9 := K0_of hf hK
    exact hRet (-1 : Int32) ftrial _ _ _ _ hK9 dX6_skins_12 hP hD hS
noncomputable def p_X6_placeByKind (x0 : Int32) (x1 : Int32) (x2 : Int32) : Option (Int32) :=
  some ((((x0 * (nI 21)) + x1) * (nI 5)) + x2)
set_option maxHeartbeats 4000000 in
set_option maxRecDepth 100000 in
theorem c_X6_placeByKind (l : Launch) (G : Gt)  (x0 : Int32) (x1 : Int32) (x2 : Int32) (r : Int32) (hf : p_X6_placeByKind x0 x1 x2 = some r) (sz : Nat) : Met l yX6_placeByKind wsX6_placeByKind ({ frames := 1, cells := 0, slots := 0, locals := 12 }) (Pc0 G sz [.int x0, .int x1, .int x2] ([] : va_W)) (Qi0 G (va_A ([] : va_W) sz) r ([] : va_W)) 0 0 (va_A ([] : va_W) sz) := by
  refine metP (Qf := fun A => Qi0 G A r ([] : va_W)) cX6_placeByKind 3 (some .int) (by decide) rfl (Nat.le_of_ble_eq_true rfl) ?_
  intro p e s m below meth c A ls hC hr hlocks hin hE hA hsz hP hD hS hl
  generalize hargs : ([.int x0, .int x1, .int x2] : List Value).toArray = args at hC ⊢
  obtain ⟨hx, hb, hml, hown, hts⟩ := id hC
  have hT : va_K G.1 vwCl (tyL G) s := hE.1
  have hRet : ∀ (r9 : Int32) (H : Heap) (locs : List Loc) (ls : Array Slot) (pc : Nat) (hK9 : r9 = r) (hdg : decode cX6_placeByKind pc = .ok (.ireturn, 1)), va_P G.1 vwCl ([] : va_W) H → va_D A ([] : va_W) → va_S A s.heap H locs → W p l e ({ frames := 1, cells := 0, slots := 0, locals := 12 }) s m args below meth c H locs 0 0 (MQ below (Qi0 G A r ([] : va_W)) args s 0 0 A) (F0 m pc ls [.int r9]) := by
    intro r9 H locs ls pc hK9 hdg hP hD hS
    cases hK9
    exact W.iret hx hb hr (fun t ht hW => ⟨⟨r, (), rfl, rfl, by rw [ht]; exact hP, hD⟩, hS.F ht⟩) hS.2.2 hdg hlocks
  generalize MQ below (Qi0 G A r ([] : va_W)) args s 0 0 A = Q at hRet ⊢
  have hl : lv_has ls 3 [(0, .int x0), (1, .int x1), (2, .int x2)] := hl
  have hK0 : r = r := rfl
  obtain ⟨res, hres, hK⟩ : ∃ res, p_X6_placeByKind x0 x1 x2 = some res ∧ res = r := ⟨_, hf, rfl⟩
  clear hf
  have hf := hres
  clear hres
  unfold p_X6_placeByKind at hf
  refine lv_iload_n hx hb dX6_placeByKind_0 rfl (lv_at hl 0 rfl) ?_
  refine lv_bipush (v := (nI 21)) hx hb dX6_placeByKind_1 (bi_21) ?_
  refine lv_imul hx hb dX6_placeByKind_3 ?_
  refine lv_iload_n hx hb dX6_placeByKind_4 rfl (lv_at hl 1 rfl) ?_
  refine lv_iadd hx hb dX6_placeByKind_5 ?_
  refine lv_iconst (v := (nI 5)) hx hb dX6_placeByKind_6 (ic_5) ?_
  refine lv_imul hx hb dX6_placeByKind_7 ?_
  refine lv_iload_n hx hb dX6_placeByKind_8 rfl (lv_at hl 2 rfl) ?_
  refine lv_iadd hx hb dX6_placeByKind_9 ?_
  have hK9 := K0_of hf hK
  exact hRet ((((x0 * (nI 21)) + x1) * (nI 5)) + x2) _ _ _ _ hK9 dX6_placeByKind_10 hP hD hS
noncomputable def p_X6_foretellByKind_L39 (fnow : Mem) (ftrial : Mem) (x1 : Int32) (x2 : Int32) (x3 : Int32) (z : Int32 × Mem) : Option ((Int32 × Mem) ⊕ Mem) :=
  match z with
  | (x4, f_) =>
    if (nI 5) ≤ x4 then
      (some (Sum.inr f_))
    else
      (Option.bind (p_X6_placeByKind x2 x3 x4) <| fun r53 =>
       Option.bind (p_X0_held ftrial x1 x4) <| fun r63 =>
       gd (inb r53 420) <|
       some (Sum.inl ((x4 + nI 1), (mrow 2 (upd (f_ 2) r53.toNatClampNeg r63) f_))))
noncomputable def p_X6_foretellByKind_L30 (fnow : Mem) (x1 : Int32) (x2 : Int32) (z : Int32 × Mem × Mem) : Option ((Int32 × Mem × Mem) ⊕ (Mem × Mem)) :=
  match z with
  | (x3, f_, ftrial_) =>
    if (nI 20) < x3 then
      (some (Sum.inr (f_, ftrial_)))
    else
      (Option.bind (lp (p_X6_foretellByKind_L39 fnow ftrial_ x1 x2 x3) ((nI 0), f_)) <| fun f_39 =>
       Option.bind (p_X0_passWeek ftrial_) <| fun (r77, ftrial_77) =>
       some (Sum.inl ((x3 + nI 1), f_39, ftrial_77)))
noncomputable def p_X6_foretellByKind_L2 (fnow : Mem) (x1 : Int32) (z : Int32 × Mem × Mem) : Option ((Int32 × Mem × Mem) ⊕ (Mem × Mem)) :=
  match z with
  | (x2, f_, ftrial_) =>
    if (nI 4) ≤ x2 then
      (some (Sum.inr (f_, ftrial_)))
    else
      (Option.bind (p_X0_copyFrom ftrial_ fnow) <| fun ftrial_15 =>
       gd (inb x1 3) <|
       Option.bind (lp (p_X6_foretellByKind_L30 fnow x1 x2) ((nI 0), f_, (mrow 1 (upd (ftrial_15 1) x1.toNatClampNeg x2) ftrial_15))) <| fun (f_30, ftrial_30) =>
       some (Sum.inl ((x2 + nI 1), f_30, ftrial_30)))
noncomputable def p_X6_foretellByKind (f : Mem) (fnow : Mem) (ftrial : Mem) (x1 : Int32) : Option (Mem × Mem) :=
  Option.bind (lp (p_X6_foretellByKind_L2 fnow x1) ((nI 0), f, ftrial)) <| fun (f_2, ftrial_2) =>
  some (f_2, ftrial_2)
set_option maxHeartbeats 4000000 in
set_option maxRecDepth 100000 in
theorem c_X6_foretellByKind (l : Launch) (G : Gt) (ad : Nat → Nat) (ado : Nat → Nat → Nat) (f : Mem) (fnow : Mem) (ftrial : Mem) (x1 : Int32) (fz : Mem) (ftrialz : Mem) (hf : p_X6_foretellByKind f fnow ftrial x1 = some (fz, ftrialz)) (sz : Nat) : Met l yX6_foretellByKind wsX6_foretellByKind ({ frames := 4, cells := 0, slots := 0, locals := 110 }) (Pc0 G sz [.ref (ad 0), .int x1] (wX6 G ad ado f ++ (wX0 G (ado 1) fnow ++ (wX0 G (ado 2) ftrial)))) (Qv0 G (va_A (wX6 G ad ado f ++ (wX0 G (ado 1) fnow ++ (wX0 G (ado 2) ftrial))) sz) (wX6 G ad ado fz ++ (wX0 G (ado 1) fnow ++ (wX0 G (ado 2) ftrialz)))) 0 0 (va_A (wX6 G ad ado f ++ (wX0 G (ado 1) fnow ++ (wX0 G (ado 2) ftrial))) sz) := by
  refine metP (Qf := fun A => Qv0 G A (wX6 G ad ado fz ++ (wX0 G (ado 1) fnow ++ (wX0 G (ado 2) ftrialz)))) cX6_foretellByKind 5 (none) (by decide) rfl (Nat.le_of_ble_eq_true rfl) ?_
  intro p e s m below meth c A ls hC hr hlocks hin hE hA hsz hP hD hS hl
  generalize hargs : ([.ref (ad 0), .int x1] : List Value).toArray = args at hC ⊢
  obtain ⟨hx, hb, hml, hown, hts⟩ := id hC
  have hT : va_K G.1 vwCl (tyL G) s := hE.1
  have hRet : ∀ (f9 : Mem) (ftrial9 : Mem) (H : Heap) (locs : List Loc) (ls : Array Slot) (pc : Nat) (hK9 : (f9, ftrial9) = (fz, ftrialz)) (hdg : decode cX6_foretellByKind pc = .ok (.return_, 1)), va_P G.1 vwCl (wX6 G ad ado f9 ++ (wX0 G (ado 1) fnow ++ (wX0 G (ado 2) ftrial9))) H → va_D A (wX6 G ad ado f9 ++ (wX0 G (ado 1) fnow ++ (wX0 G (ado 2) ftrial9))) → va_S A s.heap H locs → W p l e ({ frames := 4, cells := 0, slots := 0, locals := 110 }) s m args below meth c H locs 0 0 (MQ below (Qv0 G A (wX6 G ad ado fz ++ (wX0 G (ado 1) fnow ++ (wX0 G (ado 2) ftrialz)))) args s 0 0 A) (F0 m pc ls []) := by
    intro f9 ftrial9 H locs ls pc hK9 hdg hP hD hS
    cases hK9
    exact W.vret hx hb hr (fun t ht hW => ⟨⟨(), rfl, trivial, by rw [ht]; exact hP, hD⟩, hS.F ht⟩) hS.2.2 hdg hlocks
  generalize MQ below (Qv0 G A (wX6 G ad ado fz ++ (wX0 G (ado 1) fnow ++ (wX0 G (ado 2) ftrialz)))) args s 0 0 A = Q at hRet ⊢
  have lk16 := hts (.fieldLink RX6 16 "FeatherShares" "trial" "LFeatherShares$Flock;") (by decide +kernel)
  have inX6 : ∀ w ∈ u_ws RX6 TX6 11, w ∈ wsX6_foretellByKind := by decide +kernel
  have lk12 := hts (.fieldLink RX6 12 "FeatherShares" "now" "LFeatherShares$Flock;") (by decide +kernel)
  have lk129 := va_Nw.use (A := args) rfl (hE.2.1 (RX6, 129, "FeatherShares$Flock", "kind", "[I", "FeatherShares") (List.mem_of_getElem? (i := 11) rfl))
  have inX0 : ∀ w ∈ u_ws RX0 TX0 13, w ∈ wsX6_foretellByKind := by decide +kernel
  have lk48 := hts (.fieldLink RX6 48 "FeatherShares" "laterByKind" "[I") (by decide +kernel)
  have hl : lv_has ls 5 [(0, .ref (ad 0)), (1, .int x1)] := hl
  have hK0 : (fz, ftrialz) = (fz, ftrialz) := rfl
  obtain ⟨res, hres, hK⟩ : ∃ res, p_X6_foretellByKind f fnow ftrial x1 = some res ∧ res = (fz, ftrialz) := ⟨_, hf, rfl⟩
  clear hf
  have hf := hres
  clear hres
  unfold p_X6_foretellByKind at hf
  refine lv_iconst (v := (nI 0)) hx hb dX6_foretellByKind_0 (ic_0) ?_
  refine lv_istore_n (lv' := [(2, .int (nI 0)), (0, .ref (ad 0)), (1, .int x1)]) hx hb dX6_foretellByKind_1 rfl hl (by decide) rfl (fun ls hl => ?_)
  obtain ⟨⟨f_2, ftrial_2⟩, hlp, hf⟩ := bd_e hf
  refine lp_W1 (p_X6_foretellByKind_L2 fnow x1) (fun z => match z with | (x2, f_, ftrial_) => ∀ (H : Heap) (locs : List Loc) (ls : Array Slot), va_P G.1 vwCl (wX6 G ad ado f_ ++ (wX0 G (ado 1) fnow ++ (wX0 G (ado 2) ftrial_))) H → va_D A (wX6 G ad ado f_ ++ (wX0 G (ado 1) fnow ++ (wX0 G (ado 2) ftrial_))) → va_S A s.heap H locs → lv_has ls 5 [(0, .ref (ad 0)), (1, .int x1), (2, .int x2)] → W p l e ({ frames := 4, cells := 0, slots := 0, locals := 110 }) s m args below meth c H locs 0 0 Q (F0 m 2 ls [])) (fun z => match z with | (f_2, ftrial_2) => ∀ (H : Heap) (locs : List Loc) (ls : Array Slot), va_P G.1 vwCl (wX6 G ad ado f_2 ++ (wX0 G (ado 1) fnow ++ (wX0 G (ado 2) ftrial_2))) H → va_D A (wX6 G ad ado f_2 ++ (wX0 G (ado 1) fnow ++ (wX0 G (ado 2) ftrial_2))) → va_S A s.heap H locs → lv_has ls 5 [] → W p l e ({ frames := 4, cells := 0, slots := 0, locals := 110 }) s m args below meth c H locs 0 0 Q (F0 m 93 ls [])) ?_ hlp ?_ _ _ _ hP hD hS (lv_sub hl [1, 2, 0] rfl)
  · clear hlp hf hK hP hD hS hl
    intro K2 hW2 hX2 
    rintro ⟨x2, f_, ftrial_⟩ res hf hK H locs ls hP hD hS hl
    unfold p_X6_foretellByKind_L2 at hf
    dsimp only at hf
    refine lv_iload_n hx hb dX6_foretellByKind_2 rfl (lv_at hl 2 rfl) ?_
    refine lv_iconst (v := (nI 4)) hx hb dX6_foretellByKind_3 (ic_4) ?_
    refine lv_icmp_ge (tgt := 93) hx hb dX6_foretellByKind_4 (by decide) (fun hc => ?_) (fun hc => ?_)
    · have hf := if_t hf hc
      have hK9 := K_of hf hK
      have hK9 := hX2 _ hK9
      exact hK9 _ _ _ hP hD hS (lv_sub hl [] rfl)
    · have hf := if_f hf hc
      refine lv_aload_n hx hb dX6_foretellByKind_7 rfl (lv_at hl 0 rfl) ?_
      refine va_get (C := RX6) (T := TX6) (N := 11) (ci := 6) (v := .ref ((ado 2) 0)) hx hb hts inX6 hown hT hP 0 rfl rfl 1 (Nat.le_of_ble_eq_true rfl) lk16 (fun _ h => h) rfl dX6_foretellByKind_8 ?_
      refine lv_aload_n hx hb dX6_foretellByKind_11 rfl (lv_at hl 0 rfl) ?_
      refine va_get (C := RX6) (T := TX6) (N := 11) (ci := 6) (v := .ref ((ado 1) 0)) hx hb hts inX6 hown hT hP 0 rfl rfl 0 (Nat.le_of_ble_eq_true rfl) lk12 (fun _ h => h) rfl dX6_foretellByKind_12 ?_
      obtain ⟨ftrial_15, hc15, hf⟩ := bd_e hf
      refine cl_v_up (Wd := (wX6 G ad ado f_ ++ (wX0 G (ado 1) fnow ++ (wX0 G (ado 2) ftrial_)))) (Wc := (wX0 G (ado 2) ftrial_ ++ (wX0 G (ado 1) fnow))) (W' := (wX0 G (ado 2) ftrial_15 ++ (wX0 G (ado 1) fnow))) (W2 := (wX6 G ad ado f_ ++ (wX0 G (ado 1) fnow ++ (wX0 G (ado 2) ftrial_15)))) [15, 16, 17, 18, 19, 20, 21, 22, 23, 24, 25, 4, 5, 6, 7, 8, 9, 10, 11, 12, 13, 14] [0, 1, 2, 3] rfl rfl rfl rfl rfl (va_runVN (As := [.ref ((ado 1) 0)]) (rest := []) hC (c_X0_copyFrom l G (ado 2) (ado 1) ftrial_ fnow ftrial_15 hc15 _) ⟨va_cnB 1 hts gX6_foretellByKind_X0_copyFrom_n93 rfl rfl rfl (hE.2.2 (RX6, 93, yX0_copyFrom, "FeatherShares") (List.mem_of_getElem? (i := 8) rfl)) (hts (.initialized RX0) (by decide +kernel)) (by decide +kernel) ⟨Nat.le_of_ble_eq_true rfl, Nat.le_of_ble_eq_true rfl⟩, hts (.instanceMethod yX0_copyFrom) (by decide +kernel), hts (.selects RX0 yX0_copyFrom yX0_copyFrom) (by decide +kernel)⟩ ⟨Pc0_blind, va_recv hT hP (q0 := 15) (ci := 0) rfl rfl, fun U hU hW => Pc0_at (Wd := (wX0 G (ado 2) ftrial_ ++ (wX0 G (ado 1) fnow))) hE (hP.subm [15, 16, 17, 18, 19, 20, 21, 22, 23, 24, 25, 4, 5, 6, 7, 8, 9, 10, 11, 12, 13, 14] rfl) (hD.sub [15, 16, 17, 18, 19, 20, 21, 22, 23, 24, 25, 4, 5, 6, 7, 8, 9, 10, 11, 12, 13, 14] (by decide) rfl) hU hW⟩ rfl rfl hl.1 rfl (lv_room (Nat.le_of_ble_eq_true rfl)) dX6_foretellByKind_15 ⟨Nat.zero_le _, Nat.zero_le _⟩) hS hA hP hD (fun H locs hP hD hS => ?_)
      refine lv_aload_n hx hb dX6_foretellByKind_18 rfl (lv_at hl 0 rfl) ?_
      refine va_get (C := RX6) (T := TX6) (N := 11) (ci := 6) (v := .ref ((ado 2) 0)) hx hb hts inX6 hown hT hP 0 rfl rfl 1 (Nat.le_of_ble_eq_true rfl) lk16 (fun _ h => h) rfl dX6_foretellByKind_19 ?_
      refine va_getN (C := RX0) (T := TX0) (N := 13) (ci := 0) (v := .ref ((ado 2) 1)) hx hb hts inX0 hown hT hP 15 rfl rfl 3 (Nat.le_of_ble_eq_true rfl) lk129 (fun _ h => h) rfl dX6_foretellByKind_22 ?_
      refine lv_iload_n hx hb dX6_foretellByKind_25 rfl (lv_at hl 1 rfl) ?_
      refine lv_iload_n hx hb dX6_foretellByKind_26 rfl (lv_at hl 2 rfl) ?_
      obtain ⟨hg, hf⟩ := gd_e hf
      refine va_iast (f := ftrial_15 1) hx hb hT hP hD hS 16 0 rfl rfl (inb_e hg) dX6_foretellByKind_27 (fun H locs hP hD hS => ?_)
      have hP : va_P G.1 vwCl (wX6 G ad ado f_ ++ (wX0 G (ado 1) fnow ++ (wX0 G (ado 2) (mrow 1 (upd (ftrial_15 1) x1.toNatClampNeg x2) ftrial_15)))) H := hP
      have hD : va_D A (wX6 G ad ado f_ ++ (wX0 G (ado 1) fnow ++ (wX0 G (ado 2) (mrow 1 (upd (ftrial_15 1) x1.toNatClampNeg x2) ftrial_15)))) := hD
      refine lv_iconst (v := (nI 0)) hx hb dX6_foretellByKind_28 (ic_0) ?_
      refine lv_istore_n (lv' := [(3, .int (nI 0)), (0, .ref (ad 0)), (1, .int x1), (2, .int x2)]) hx hb dX6_foretellByKind_29 rfl hl (by decide) rfl (fun ls hl => ?_)
      obtain ⟨⟨f_30, ftrial_30⟩, hlp, hf⟩ := bd_e hf
      refine lp_W1 (p_X6_foretellByKind_L30 fnow x1 x2) (fun z => match z with | (x3, f_, ftrial_) => ∀ (H : Heap) (locs : List Loc) (ls : Array Slot), va_P G.1 vwCl (wX6 G ad ado f_ ++ (wX0 G (ado 1) fnow ++ (wX0 G (ado 2) ftrial_))) H → va_D A (wX6 G ad ado f_ ++ (wX0 G (ado 1) fnow ++ (wX0 G (ado 2) ftrial_))) → va_S A s.heap H locs → lv_has ls 5 [(0, .ref (ad 0)), (1, .int x1), (2, .int x2), (3, .int x3)] → W p l e ({ frames := 4, cells := 0, slots := 0, locals := 110 }) s m args below meth c H locs 0 0 Q (F0 m 30 ls [])) (fun z => match z with | (f_30, ftrial_30) => ∀ (H : Heap) (locs : List Loc) (ls : Array Slot), va_P G.1 vwCl (wX6 G ad ado f_30 ++ (wX0 G (ado 1) fnow ++ (wX0 G (ado 2) ftrial_30))) H → va_D A (wX6 G ad ado f_30 ++ (wX0 G (ado 1) fnow ++ (wX0 G (ado 2) ftrial_30))) → va_S A s.heap H locs → lv_has ls 5 [(0, .ref (ad 0)), (1, .int x1), (2, .int x2)] → W p l e ({ frames := 4, cells := 0, slots := 0, locals := 110 }) s m args below meth c H locs 0 0 Q (F0 m 87 ls [])) ?_ hlp ?_ _ _ _ hP hD hS (lv_sub hl [1, 2, 3, 0] rfl)
      · clear hlp hf hK hP hD hS hl
        intro K30 hW30 hX30 
        rintro ⟨x3, f_, ftrial_⟩ res hf hK H locs ls hP hD hS hl
        unfold p_X6_foretellByKind_L30 at hf
        dsimp only at hf
        refine lv_iload_n hx hb dX6_foretellByKind_30 rfl (lv_at hl 3 rfl) ?_
        refine lv_bipush (v := (nI 20)) hx hb dX6_foretellByKind_31 (bi_20) ?_
        refine lv_icmp_gt (tgt := 87) hx hb dX6_foretellByKind_33 (by decide) (fun hc => ?_) (fun hc => ?_)
        · have hf := if_t hf hc
          have hK9 := K_of hf hK
          have hK9 := hX30 _ hK9
          exact hK9 _ _ _ hP hD hS (lv_sub hl [0, 1, 2] rfl)
        · have hf := if_f hf hc
          refine lv_iconst (v := (nI 0)) hx hb dX6_foretellByKind_36 (ic_0) ?_
          refine lv_istore (lv' := [(4, .int (nI 0)), (0, .ref (ad 0)), (1, .int x1), (2, .int x2), (3, .int x3)]) hx hb dX6_foretellByKind_37 hl (by decide) rfl (fun ls hl => ?_)
          obtain ⟨f_39, hlp, hf⟩ := bd_e hf
          refine lp_W1 (p_X6_foretellByKind_L39 fnow ftrial_ x1 x2 x3) (fun z => match z with | (x4, f_) => ∀ (H : Heap) (locs : List Loc) (ls : Array Slot), va_P G.1 vwCl (wX6 G ad ado f_ ++ (wX0 G (ado 1) fnow ++ (wX0 G (ado 2) ftrial_))) H → va_D A (wX6 G ad ado f_ ++ (wX0 G (ado 1) fnow ++ (wX0 G (ado 2) ftrial_))) → va_S A s.heap H locs → lv_has ls 5 [(0, .ref (ad 0)), (1, .int x1), (2, .int x2), (3, .int x3), (4, .int x4)] → W p l e ({ frames := 4, cells := 0, slots := 0, locals := 110 }) s m args below meth c H locs 0 0 Q (F0 m 39 ls [])) (fun (f_39 : Mem) => ∀ (H : Heap) (locs : List Loc) (ls : Array Slot), va_P G.1 vwCl (wX6 G ad ado f_39 ++ (wX0 G (ado 1) fnow ++ (wX0 G (ado 2) ftrial_))) H → va_D A (wX6 G ad ado f_39 ++ (wX0 G (ado 1) fnow ++ (wX0 G (ado 2) ftrial_))) → va_S A s.heap H locs → lv_has ls 5 [(0, .ref (ad 0)), (1, .int x1), (2, .int x2), (3, .int x3)] → W p l e ({ frames := 4, cells := 0, slots := 0, locals := 110 }) s m args below meth c H locs 0 0 Q (F0 m 73 ls [])) ?_ hlp ?_ _ _ _ hP hD hS (lv_sub hl [1, 2, 3, 4, 0] rfl)
          · clear hlp hf hK hP hD hS hl
            generalize ftrial_ = ftrial
            intro K39 hW39 hX39 
            rintro ⟨x4, f_⟩ res hf hK H locs ls hP hD hS hl
            unfold p_X6_foretellByKind_L39 at hf
            dsimp only at hf
            refine lv_iload hx hb dX6_foretellByKind_39 (lv_at hl 4 rfl) ?_
            refine lv_iconst (v := (nI 5)) hx hb dX6_foretellByKind_41 (ic_5) ?_
            refine lv_icmp_ge (tgt := 73) hx hb dX6_foretellByKind_42 (by decide) (fun hc => ?_) (fun hc => ?_)
            · have hf := if_t hf hc
              have hK9 := K_of hf hK
              have hK9 := hX39 _ hK9
              exact hK9 _ _ _ hP hD hS (lv_sub hl [0, 1, 2, 3] rfl)
            · have hf := if_f hf hc
              refine lv_aload_n hx hb dX6_foretellByKind_45 rfl (lv_at hl 0 rfl) ?_
              refine va_get (C := RX6) (T := TX6) (N := 11) (ci := 6) (v := .ref (ad 2)) hx hb hts inX6 hown hT hP 0 rfl rfl 7 (Nat.le_of_ble_eq_true rfl) lk48 (fun _ h => h) rfl dX6_foretellByKind_46 ?_
              refine lv_iload_n hx hb dX6_foretellByKind_49 rfl (lv_at hl 2 rfl) ?_
              refine lv_iload_n hx hb dX6_foretellByKind_50 rfl (lv_at hl 3 rfl) ?_
              refine lv_iload hx hb dX6_foretellByKind_51 (lv_at hl 4 rfl) ?_
              obtain ⟨r53, hc53, hf⟩ := bd_e hf
              refine cl_i_ro (Wd := (wX6 G ad ado f_ ++ (wX0 G (ado 1) fnow ++ (wX0 G (ado 2) ftrial)))) (Wc := ([] : va_W)) [] rfl (va_runS (As := [.int x2, .int x3, .int x4]) (rest := [.ref (ad 2)]) hC (c_X6_placeByKind l G x2 x3 x4 r53 hc53 _) (va_cwS 3 hts gX6_foretellByKind_X6_placeByKind rfl rfl rfl (by decide +kernel) ⟨Nat.le_of_ble_eq_true rfl, Nat.le_of_ble_eq_true rfl⟩) ⟨Pc0_blind, fun U hU hW => Pc0_at (Wd := ([] : va_W)) hE (hP.subm [] rfl) (hD.sub [] (by decide) rfl) hU hW⟩ rfl rfl hl.1 rfl (lv_room (Nat.le_of_ble_eq_true rfl)) dX6_foretellByKind_53 ⟨Nat.zero_le _, Nat.zero_le _⟩) hS hA hP hD (fun H locs hP hD hS => ?_)
              refine lv_aload_n hx hb dX6_foretellByKind_56 rfl (lv_at hl 0 rfl) ?_
              refine va_get (C := RX6) (T := TX6) (N := 11) (ci := 6) (v := .ref ((ado 2) 0)) hx hb hts inX6 hown hT hP 0 rfl rfl 1 (Nat.le_of_ble_eq_true rfl) lk16 (fun _ h => h) rfl dX6_foretellByKind_57 ?_
              refine lv_iload_n hx hb dX6_foretellByKind_60 rfl (lv_at hl 1 rfl) ?_
              refine lv_iload hx hb dX6_foretellByKind_61 (lv_at hl 4 rfl) ?_
              obtain ⟨r63, hc63, hf⟩ := bd_e hf
              refine cl_i_ro (Wd := (wX6 G ad ado f_ ++ (wX0 G (ado 1) fnow ++ (wX0 G (ado 2) ftrial)))) (Wc := (wX0 G (ado 2) ftrial)) [15, 16, 17, 18, 19, 20, 21, 22, 23, 24, 25] rfl (va_runVN (As := [.int x1, .int x4]) (rest := [.int r53, .ref (ad 2)]) hC (c_X0_held l G (ado 2) ftrial x1 x4 r63 hc63 _) ⟨va_cnB 2 hts gX6_foretellByKind_X0_held_n152 rfl rfl rfl (hE.2.2 (RX6, 152, yX0_held, "FeatherShares") (List.mem_of_getElem? (i := 14) rfl)) (hts (.initialized RX0) (by decide +kernel)) (by decide +kernel) ⟨Nat.le_of_ble_eq_true rfl, Nat.le_of_ble_eq_true rfl⟩, hts (.instanceMethod yX0_held) (by decide +kernel), hts (.selects RX0 yX0_held yX0_held) (by decide +kernel)⟩ ⟨Pc0_blind, va_recv hT hP (q0 := 15) (ci := 0) rfl rfl, fun U hU hW => Pc0_at (Wd := (wX0 G (ado 2) ftrial)) hE (hP.subm [15, 16, 17, 18, 19, 20, 21, 22, 23, 24, 25] rfl) (hD.sub [15, 16, 17, 18, 19, 20, 21, 22, 23, 24, 25] (by decide) rfl) hU hW⟩ rfl rfl hl.1 rfl (lv_room (Nat.le_of_ble_eq_true rfl)) dX6_foretellByKind_63 ⟨Nat.zero_le _, Nat.zero_le _⟩) hS hA hP hD (fun H locs hP hD hS => ?_)
              obtain ⟨hg, hf⟩ := gd_e hf
              refine va_iast (f := f_ 2) hx hb hT hP hD hS 2 0 rfl rfl (inb_e hg) dX6_foretellByKind_66 (fun H locs hP hD hS => ?_)
              have hP : va_P G.1 vwCl (wX6 G ad ado (mrow 2 (upd (f_ 2) r53.toNatClampNeg r63) f_) ++ (wX0 G (ado 1) fnow ++ (wX0 G (ado 2) ftrial))) H := hP
              have hD : va_D A (wX6 G ad ado (mrow 2 (upd (f_ 2) r53.toNatClampNeg r63) f_) ++ (wX0 G (ado 1) fnow ++ (wX0 G (ado 2) ftrial))) := hD
              refine lv_iinc (v := (x4 + nI 1)) (lv' := [(4, .int (x4 + nI 1)), (0, .ref (ad 0)), (1, .int x1), (2, .int x2), (3, .int x3)]) hx hb dX6_foretellByKind_67 hl (k := 4) rfl (ii_x 1 _) (by decide) rfl (fun ls hl => ?_)
              refine lv_goto (tgt := 39) hx hb dX6_foretellByKind_70 (by decide) ?_
              have hK9 := K_of hf hK
              have hK9 := hW39 _ hK9
              exact hK9 _ _ _ hP hD hS (lv_sub hl [1, 2, 3, 4, 0] rfl)
          · try dsimp only at hf
            show ∀ (H : Heap) (locs : List Loc) (ls : Array Slot), va_P G.1 vwCl (wX6 G ad ado f_39 ++ (wX0 G (ado 1) fnow ++ (wX0 G (ado 2) ftrial_))) H → va_D A (wX6 G ad ado f_39 ++ (wX0 G (ado 1) fnow ++ (wX0 G (ado 2) ftrial_))) → va_S A s.heap H locs → lv_has ls 5 [(0, .ref (ad 0)), (1, .int x1), (2, .int x2), (3, .int x3)] → W p l e ({ frames := 4, cells := 0, slots := 0, locals := 110 }) s m args below meth c H locs 0 0 Q (F0 m 73 ls [])
            intro H locs ls hP hD hS hl
            refine lv_aload_n hx hb dX6_foretellByKind_73 rfl (lv_at hl 0 rfl) ?_
            refine va_get (C := RX6) (T := TX6) (N := 11) (ci := 6) (v := .ref ((ado 2) 0)) hx hb hts inX6 hown hT hP 0 rfl rfl 1 (Nat.le_of_ble_eq_true rfl) lk16 (fun _ h => h) rfl dX6_foretellByKind_74 ?_
            obtain ⟨⟨r77, ftrial_77⟩, hc77, hf⟩ := bd_e hf
            try dsimp only at hf
            refine cl_i_up (Wd := (wX6 G ad ado f_39 ++ (wX0 G (ado 1) fnow ++ (wX0 G (ado 2) ftrial_)))) (Wc := (wX0 G (ado 2) ftrial_)) (W' := (wX0 G (ado 2) ftrial_77)) (W2 := (wX6 G ad ado f_39 ++ (wX0 G (ado 1) fnow ++ (wX0 G (ado 2) ftrial_77)))) [15, 16, 17, 18, 19, 20, 21, 22, 23, 24, 25] [0, 1, 2, 3, 4, 5, 6, 7, 8, 9, 10, 11, 12, 13, 14] rfl rfl rfl rfl rfl (va_runVN (As := []) (rest := []) hC (c_X0_passWeek l G (ado 2) ftrial_ r77 ftrial_77 hc77 _) ⟨va_cnB 0 hts gX6_foretellByKind_X0_passWeek_n207 rfl rfl rfl (hE.2.2 (RX6, 207, yX0_passWeek, "FeatherShares") (List.mem_of_getElem? (i := 25) rfl)) (hts (.initialized RX0) (by decide +kernel)) (by decide +kernel) ⟨Nat.le_of_ble_eq_true rfl, Nat.le_of_ble_eq_true rfl⟩, hts (.instanceMethod yX0_passWeek) (by decide +kernel), hts (.selects RX0 yX0_passWeek yX0_passWeek) (by decide +kernel)⟩ ⟨Pc0_blind, va_recv hT hP (q0 := 15) (ci := 0) rfl rfl, fun U hU hW => Pc0_at (Wd := (wX0 G (ado 2) ftrial_)) hE (hP.subm [15, 16, 17, 18, 19, 20, 21, 22, 23, 24, 25] rfl) (hD.sub [15, 16, 17, 18, 19, 20, 21, 22, 23, 24, 25] (by decide) rfl) hU hW⟩ rfl rfl hl.1 rfl (lv_room (Nat.le_of_ble_eq_true rfl)) dX6_foretellByKind_77 ⟨Nat.zero_le _, Nat.zero_le _⟩) hS hA hP hD (fun H locs hP hD hS => ?_)
            refine lv_pop hx hb dX6_foretellByKind_80 rfl ?_
            refine lv_iinc (v := (x3 + nI 1)) (lv' := [(3, .int (x3 + nI 1)), (0, .ref (ad 0)), (1, .int x1), (2, .int x2)]) hx hb dX6_foretellByKind_81 hl (k := 3) rfl (ii_x 1 _) (by decide) rfl (fun ls hl => ?_)
            refine lv_goto (tgt := 30) hx hb dX6_foretellByKind_84 (by decide) ?_
            have hK9 := K_of hf hK
            have hK9 := hW30 _ hK9
            exact hK9 _ _ _ hP hD hS (lv_sub hl [1, 2, 3, 0] rfl)
      · try dsimp only at hf
        show ∀ (H : Heap) (locs : List Loc) (ls : Array Slot), va_P G.1 vwCl (wX6 G ad ado f_30 ++ (wX0 G (ado 1) fnow ++ (wX0 G (ado 2) ftrial_30))) H → va_D A (wX6 G ad ado f_30 ++ (wX0 G (ado 1) fnow ++ (wX0 G (ado 2) ftrial_30))) → va_S A s.heap H locs → lv_has ls 5 [(0, .ref (ad 0)), (1, .int x1), (2, .int x2)] → W p l e ({ frames := 4, cells := 0, slots := 0, locals := 110 }) s m args below meth c H locs 0 0 Q (F0 m 87 ls [])
        intro H locs ls hP hD hS hl
        refine lv_iinc (v := (x2 + nI 1)) (lv' := [(2, .int (x2 + nI 1)), (0, .ref (ad 0)), (1, .int x1)]) hx hb dX6_foretellByKind_87 hl (k := 2) rfl (ii_x 1 _) (by decide) rfl (fun ls hl => ?_)
        refine lv_goto (tgt := 2) hx hb dX6_foretellByKind_90 (by decide) ?_
        have hK9 := K_of hf hK
        have hK9 := hW2 _ hK9
        exact hK9 _ _ _ hP hD hS (lv_sub hl [1, 2, 0] rfl)
  · try dsimp only at hf
    show ∀ (H : Heap) (locs : List Loc) (ls : Array Slot), va_P G.1 vwCl (wX6 G ad ado f_2 ++ (wX0 G (ado 1) fnow ++ (wX0 G (ado 2) ftrial_2))) H → va_D A (wX6 G ad ado f_2 ++ (wX0 G (ado 1) fnow ++ (wX0 G (ado 2) ftrial_2))) → va_S A s.heap H locs → lv_has ls 5 [] → W p l e ({ frames := 4, cells := 0, slots := 0, locals := 110 }) s m args below meth c H locs 0 0 Q (F0 m 93 ls [])
    intro H locs ls hP hD hS hl
    have hK9 := K0_of hf hK
    exact hRet f_2 ftrial_2 _ _ _ _ hK9 dX6_foretellByKind_93 hP hD hS
noncomputable def p_X6_mostKindsAlike_B44 (f : Mem) (x1 : Int32) (x2 : Int32) (x3 : Int32) (x4 : Int32) (x5 : Int32) (x6 : Int32) (x7 : Int32) (s0 : Int32) : Option ((Int32 × Int32) ⊕ Int32) :=
  if s0 = 0 then
    (some (Sum.inl (x6, (x7 + nI 1))))
  else
    (Option.bind (p_X6_placeByKind x5 x2 x3) <| fun r59 =>
     gd (inb r59 420) <|
     Option.bind (p_X6_placeByKind x7 x2 x3) <| fun r71 =>
     gd (inb r71 420) <|
     if (f 2 r59.toNatClampNeg) = (f 2 r71.toNatClampNeg) then
       (some (Sum.inl ((x6 + nI 1), (x7 + nI 1))))
     else
       (some (Sum.inl (x6, (x7 + nI 1)))))
noncomputable def p_X6_mostKindsAlike_L18 (f : Mem) (x1 : Int32) (x2 : Int32) (x3 : Int32) (x4 : Int32) (x5 : Int32) (z : Int32 × Int32) : Option ((Int32 × Int32) ⊕ Int32) :=
  match z with
  | (x6, x7) =>
    if (nI 4) ≤ x7 then
      (some (Sum.inr x6))
    else
      (if (((x1 >>> (x5 &&& 31)) &&& (x1 >>> (x7 &&& 31))) &&& (nI 1)) = (nI 1) then
         (p_X6_mostKindsAlike_B44 f x1 x2 x3 x4 x5 x6 x7 (nI 1))
       else
         (p_X6_mostKindsAlike_B44 f x1 x2 x3 x4 x5 x6 x7 (nI 0)))
noncomputable def p_X6_mostKindsAlike_L6 (f : Mem) (x1 : Int32) (x2 : Int32) (x3 : Int32) (z : Int32 × Int32) : Option ((Int32 × Int32) ⊕ Int32) :=
  match z with
  | (x4, x5) =>
    if (nI 4) ≤ x5 then
      (some (Sum.inr x4))
    else
      (Option.bind (lp (p_X6_mostKindsAlike_L18 f x1 x2 x3 x4 x5) ((nI 0), (nI 0))) <| fun y6_18 =>
       some (Sum.inl ((if x4 < y6_18 then y6_18 else x4), (x5 + nI 1))))
noncomputable def p_X6_mostKindsAlike (f : Mem) (x1 : Int32) (x2 : Int32) (x3 : Int32) : Option (Int32) :=
  Option.bind (lp (p_X6_mostKindsAlike_L6 f x1 x2 x3) ((nI 0), (nI 0))) <| fun y4_6 =>
  some y4_6
set_option maxHeartbeats 4000000 in
set_option maxRecDepth 100000 in
theorem c_X6_mostKindsAlike (l : Launch) (G : Gt) (ad : Nat → Nat) (ado : Nat → Nat → Nat) (f : Mem) (x1 : Int32) (x2 : Int32) (x3 : Int32) (r : Int32) (hf : p_X6_mostKindsAlike f x1 x2 x3 = some r) (sz : Nat) : Met l yX6_mostKindsAlike wsX6_mostKindsAlike ({ frames := 2, cells := 0, slots := 0, locals := 40 }) (Pc0 G sz [.ref (ad 0), .int x1, .int x2, .int x3] (wX6 G ad ado f)) (Qi0 G (va_A (wX6 G ad ado f) sz) r (wX6 G ad ado f)) 0 0 (va_A (wX6 G ad ado f) sz) := by
  refine metP (Qf := fun A => Qi0 G A r (wX6 G ad ado f)) cX6_mostKindsAlike 9 (some .int) (by decide) rfl (Nat.le_of_ble_eq_true rfl) ?_
  intro p e s m below meth c A ls hC hr hlocks hin hE hA hsz hP hD hS hl
  generalize hargs : ([.ref (ad 0), .int x1, .int x2, .int x3] : List Value).toArray = args at hC ⊢
  obtain ⟨hx, hb, hml, hown, hts⟩ := id hC
  have hT : va_K G.1 vwCl (tyL G) s := hE.1
  have hRet : ∀ (r9 : Int32) (H : Heap) (locs : List Loc) (ls : Array Slot) (pc : Nat) (hK9 : r9 = r) (hdg : decode cX6_mostKindsAlike pc = .ok (.ireturn, 1)), va_P G.1 vwCl (wX6 G ad ado f) H → va_D A (wX6 G ad ado f) → va_S A s.heap H locs → W p l e ({ frames := 2, cells := 0, slots := 0, locals := 40 }) s m args below meth c H locs 0 0 (MQ below (Qi0 G A r (wX6 G ad ado f)) args s 0 0 A) (F0 m pc ls [.int r9]) := by
    intro r9 H locs ls pc hK9 hdg hP hD hS
    cases hK9
    exact W.iret hx hb hr (fun t ht hW => ⟨⟨r, (), rfl, rfl, by rw [ht]; exact hP, hD⟩, hS.F ht⟩) hS.2.2 hdg hlocks
  generalize MQ below (Qi0 G A r (wX6 G ad ado f)) args s 0 0 A = Q at hRet ⊢
  have lk48 := hts (.fieldLink RX6 48 "FeatherShares" "laterByKind" "[I") (by decide +kernel)
  have inX6 : ∀ w ∈ u_ws RX6 TX6 11, w ∈ wsX6_mostKindsAlike := by decide +kernel
  have hl : lv_has ls 9 [(0, .ref (ad 0)), (1, .int x1), (2, .int x2), (3, .int x3)] := hl
  have hK0 : r = r := rfl
  obtain ⟨res, hres, hK⟩ : ∃ res, p_X6_mostKindsAlike f x1 x2 x3 = some res ∧ res = r := ⟨_, hf, rfl⟩
  clear hf
  have hf := hres
  clear hres
  unfold p_X6_mostKindsAlike at hf
  refine lv_iconst (v := (nI 0)) hx hb dX6_mostKindsAlike_0 (ic_0) ?_
  refine lv_istore (lv' := [(4, .int (nI 0)), (0, .ref (ad 0)), (1, .int x1), (2, .int x2), (3, .int x3)]) hx hb dX6_mostKindsAlike_1 hl (by decide) rfl (fun ls hl => ?_)
  refine lv_iconst (v := (nI 0)) hx hb dX6_mostKindsAlike_3 (ic_0) ?_
  refine lv_istore (lv' := [(5, .int (nI 0)), (4, .int (nI 0)), (0, .ref (ad 0)), (1, .int x1), (2, .int x2), (3, .int x3)]) hx hb dX6_mostKindsAlike_4 hl (by decide) rfl (fun ls hl => ?_)
  obtain ⟨y4_6, hlp, hf⟩ := bd_e hf
  refine lp_W1 (p_X6_mostKindsAlike_L6 f x1 x2 x3) (fun z => match z with | (x4, x5) => ∀ (H : Heap) (locs : List Loc) (ls : Array Slot), va_P G.1 vwCl (wX6 G ad ado f) H → va_D A (wX6 G ad ado f) → va_S A s.heap H locs → lv_has ls 9 [(0, .ref (ad 0)), (1, .int x1), (2, .int x2), (3, .int x3), (4, .int x4), (5, .int x5)] → W p l e ({ frames := 2, cells := 0, slots := 0, locals := 40 }) s m args below meth c H locs 0 0 Q (F0 m 6 ls [])) (fun (y4_6 : Int32) => ∀ (H : Heap) (locs : List Loc) (ls : Array Slot), va_P G.1 vwCl (wX6 G ad ado f) H → va_D A (wX6 G ad ado f) → va_S A s.heap H locs → lv_has ls 9 [(4, .int y4_6)] → W p l e ({ frames := 2, cells := 0, slots := 0, locals := 40 }) s m args below meth c H locs 0 0 Q (F0 m 102 ls [])) ?_ hlp ?_ _ _ _ hP hD hS (lv_sub hl [2, 3, 4, 5, 1, 0] rfl)
  · clear hlp hf hK hP hD hS hl
    intro K6 hW6 hX6 
    rintro ⟨x4, x5⟩ res hf hK H locs ls hP hD hS hl
    unfold p_X6_mostKindsAlike_L6 at hf
    dsimp only at hf
    refine lv_iload hx hb dX6_mostKindsAlike_6 (lv_at hl 5 rfl) ?_
    refine lv_iconst (v := (nI 4)) hx hb dX6_mostKindsAlike_8 (ic_4) ?_
    refine lv_icmp_ge (tgt := 102) hx hb dX6_mostKindsAlike_9 (by decide) (fun hc => ?_) (fun hc => ?_)
    · have hf := if_t hf hc
      have hK9 := K_of hf hK
      have hK9 := hX6 _ hK9
      exact hK9 _ _ _ hP hD hS (lv_sub hl [4] rfl)
    · have hf := if_f hf hc
      refine lv_iconst (v := (nI 0)) hx hb dX6_mostKindsAlike_12 (ic_0) ?_
      refine lv_istore (lv' := [(6, .int (nI 0)), (0, .ref (ad 0)), (1, .int x1), (2, .int x2), (3, .int x3), (4, .int x4), (5, .int x5)]) hx hb dX6_mostKindsAlike_13 hl (by decide) rfl (fun ls hl => ?_)
      refine lv_iconst (v := (nI 0)) hx hb dX6_mostKindsAlike_15 (ic_0) ?_
      refine lv_istore (lv' := [(7, .int (nI 0)), (6, .int (nI 0)), (0, .ref (ad 0)), (1, .int x1), (2, .int x2), (3, .int x3), (4, .int x4), (5, .int x5)]) hx hb dX6_mostKindsAlike_16 hl (by decide) rfl (fun ls hl => ?_)
      obtain ⟨y6_18, hlp, hf⟩ := bd_e hf
      refine lp_W1 (p_X6_mostKindsAlike_L18 f x1 x2 x3 x4 x5) (fun z => match z with | (x6, x7) => ∀ (H : Heap) (locs : List Loc) (ls : Array Slot), va_P G.1 vwCl (wX6 G ad ado f) H → va_D A (wX6 G ad ado f) → va_S A s.heap H locs → lv_has ls 9 [(0, .ref (ad 0)), (1, .int x1), (2, .int x2), (3, .int x3), (4, .int x4), (5, .int x5), (6, .int x6), (7, .int x7)] → W p l e ({ frames := 2, cells := 0, slots := 0, locals := 40 }) s m args below meth c H locs 0 0 Q (F0 m 18 ls [])) (fun (y6_18 : Int32) => ∀ (H : Heap) (locs : List Loc) (ls : Array Slot), va_P G.1 vwCl (wX6 G ad ado f) H → va_D A (wX6 G ad ado f) → va_S A s.heap H locs → lv_has ls 9 [(0, .ref (ad 0)), (1, .int x1), (2, .int x2), (3, .int x3), (4, .int x4), (5, .int x5), (6, .int y6_18)] → W p l e ({ frames := 2, cells := 0, slots := 0, locals := 40 }) s m args below meth c H locs 0 0 Q (F0 m 87 ls [])) ?_ hlp ?_ _ _ _ hP hD hS (lv_sub hl [2, 3, 4, 5, 6, 7, 1, 0] rfl)
      · clear hlp hf hK hP hD hS hl
        intro K18 hW18 hX18 
        have hB44 : ∀ (x6 : Int32) (x7 : Int32) (s0 : Int32) (res : (Int32 × Int32) ⊕ Int32) (hf : p_X6_mostKindsAlike_B44 f x1 x2 x3 x4 x5 x6 x7 s0 = some res) (hK : K18 res), ∀ (H : Heap) (locs : List Loc) (ls : Array Slot), va_P G.1 vwCl (wX6 G ad ado f) H → va_D A (wX6 G ad ado f) → va_S A s.heap H locs → lv_has ls 9 [(0, .ref (ad 0)), (1, .int x1), (2, .int x2), (3, .int x3), (4, .int x4), (5, .int x5), (6, .int x6), (7, .int x7)] → W p l e ({ frames := 2, cells := 0, slots := 0, locals := 40 }) s m args below meth c H locs 0 0 Q (F0 m 44 ls [.int s0]) := by
          intro x6 x7 s0 res hf hK H locs ls hP hD hS hl
          unfold p_X6_mostKindsAlike_B44 at hf
          refine lv_istore (lv' := [(8, .int s0), (0, .ref (ad 0)), (1, .int x1), (2, .int x2), (3, .int x3), (4, .int x4), (5, .int x5), (6, .int x6), (7, .int x7)]) hx hb dX6_mostKindsAlike_44 hl (by decide) rfl (fun ls hl => ?_)
          refine lv_iload hx hb dX6_mostKindsAlike_46 (lv_at hl 0 rfl) ?_
          refine lv_if_eq (tgt := 81) hx hb dX6_mostKindsAlike_48 (by decide) (fun hc => ?_) (fun hc => ?_)
          · have hf := if_t hf hc
            refine lv_iinc (v := (x7 + nI 1)) (lv' := [(7, .int (x7 + nI 1)), (8, .int s0), (0, .ref (ad 0)), (1, .int x1), (2, .int x2), (3, .int x3), (4, .int x4), (5, .int x5), (6, .int x6)]) hx hb dX6_mostKindsAlike_81 hl (k := 8) rfl (ii_x 1 _) (by decide) rfl (fun ls hl => ?_)
            refine lv_goto (tgt := 18) hx hb dX6_mostKindsAlike_84 (by decide) ?_
            have hK9 := K_of hf hK
            have hK9 := hW18 _ hK9
            exact hK9 _ _ _ hP hD hS (lv_sub hl [2, 3, 4, 5, 6, 7, 8, 0] rfl)
          · have hf := if_f hf hc
            refine lv_aload_n hx hb dX6_mostKindsAlike_51 rfl (lv_at hl 1 rfl) ?_
            refine va_get (C := RX6) (T := TX6) (N := 11) (ci := 6) (v := .ref (ad 2)) hx hb hts inX6 hown hT hP 0 rfl rfl 7 (Nat.le_of_ble_eq_true rfl) lk48 (fun _ h => h) rfl dX6_mostKindsAlike_52 ?_
            refine lv_iload hx hb dX6_mostKindsAlike_55 (lv_at hl 6 rfl) ?_
            refine lv_iload_n hx hb dX6_mostKindsAlike_57 rfl (lv_at hl 3 rfl) ?_
            refine lv_iload_n hx hb dX6_mostKindsAlike_58 rfl (lv_at hl 4 rfl) ?_
            obtain ⟨r59, hc59, hf⟩ := bd_e hf
            refine cl_i_ro (Wd := (wX6 G ad ado f)) (Wc := ([] : va_W)) [] rfl (va_runS (As := [.int x5, .int x2, .int x3]) (rest := [.ref (ad 2)]) hC (c_X6_placeByKind l G x5 x2 x3 r59 hc59 _) (va_cwS 3 hts gX6_mostKindsAlike_X6_placeByKind rfl rfl rfl (by decide +kernel) ⟨Nat.le_of_ble_eq_true rfl, Nat.le_of_ble_eq_true rfl⟩) ⟨Pc0_blind, fun U hU hW => Pc0_at (Wd := ([] : va_W)) hE (hP.subm [] rfl) (hD.sub [] (by decide) rfl) hU hW⟩ rfl rfl hl.1 rfl (lv_room (Nat.le_of_ble_eq_true rfl)) dX6_mostKindsAlike_59 ⟨Nat.zero_le _, Nat.zero_le _⟩) hS hA hP hD (fun H locs hP hD hS => ?_)
            obtain ⟨hg, hf⟩ := gd_e hf
            refine va_iald (f := f 2) hx hb hT hP 2 0 rfl rfl (inb_e hg) dX6_mostKindsAlike_62 ?_
            refine lv_aload_n hx hb dX6_mostKindsAlike_63 rfl (lv_at hl 1 rfl) ?_
            refine va_get (C := RX6) (T := TX6) (N := 11) (ci := 6) (v := .ref (ad 2)) hx hb hts inX6 hown hT hP 0 rfl rfl 7 (Nat.le_of_ble_eq_true rfl) lk48 (fun _ h => h) rfl dX6_mostKindsAlike_64 ?_
            refine lv_iload hx hb dX6_mostKindsAlike_67 (lv_at hl 8 rfl) ?_
            refine lv_iload_n hx hb dX6_mostKindsAlike_69 rfl (lv_at hl 3 rfl) ?_
            refine lv_iload_n hx hb dX6_mostKindsAlike_70 rfl (lv_at hl 4 rfl) ?_
            obtain ⟨r71, hc71, hf⟩ := bd_e hf
            refine cl_i_ro (Wd := (wX6 G ad ado f)) (Wc := ([] : va_W)) [] rfl (va_runS (As := [.int x7, .int x2, .int x3]) (rest := [.ref (ad 2), .int (f 2 r59.toNatClampNeg)]) hC (c_X6_placeByKind l G x7 x2 x3 r71 hc71 _) (va_cwS 3 hts gX6_mostKindsAlike_X6_placeByKind rfl rfl rfl (by decide +kernel) ⟨Nat.le_of_ble_eq_true rfl, Nat.le_of_ble_eq_true rfl⟩) ⟨Pc0_blind, fun U hU hW => Pc0_at (Wd := ([] : va_W)) hE (hP.subm [] rfl) (hD.sub [] (by decide) rfl) hU hW⟩ rfl rfl hl.1 rfl (lv_room (Nat.le_of_ble_eq_true rfl)) dX6_mostKindsAlike_71 ⟨Nat.zero_le _, Nat.zero_le _⟩) hS hA hP hD (fun H locs hP hD hS => ?_)
            obtain ⟨hg, hf⟩ := gd_e hf
            refine va_iald (f := f 2) hx hb hT hP 2 0 rfl rfl (inb_e hg) dX6_mostKindsAlike_74 ?_
            refine lv_icmp_ne (tgt := 81) hx hb dX6_mostKindsAlike_75 (by decide) (fun hc => ?_) (fun hc => ?_)
            · have hf := if_f hf hc
              refine lv_iinc (v := (x7 + nI 1)) (lv' := [(7, .int (x7 + nI 1)), (8, .int s0), (0, .ref (ad 0)), (1, .int x1), (2, .int x2), (3, .int x3), (4, .int x4), (5, .int x5), (6, .int x6)]) hx hb dX6_mostKindsAlike_81 hl (k := 8) rfl (ii_x 1 _) (by decide) rfl (fun ls hl => ?_)
              refine lv_goto (tgt := 18) hx hb dX6_mostKindsAlike_84 (by decide) ?_
              have hK9 := K_of hf hK
              have hK9 := hW18 _ hK9
              exact hK9 _ _ _ hP hD hS (lv_sub hl [2, 3, 4, 5, 6, 7, 8, 0] rfl)
            · have hf := if_t hf hc
              refine lv_iinc (v := (x6 + nI 1)) (lv' := [(6, .int (x6 + nI 1)), (8, .int s0), (0, .ref (ad 0)), (1, .int x1), (2, .int x2), (3, .int x3), (4, .int x4), (5, .int x5), (7, .int x7)]) hx hb dX6_mostKindsAlike_78 hl (k := 7) rfl (ii_x 1 _) (by decide) rfl (fun ls hl => ?_)
              refine lv_iinc (v := (x7 + nI 1)) (lv' := [(7, .int (x7 + nI 1)), (6, .int (x6 + nI 1)), (8, .int s0), (0, .ref (ad 0)), (1, .int x1), (2, .int x2), (3, .int x3), (4, .int x4), (5, .int x5)]) hx hb dX6_mostKindsAlike_81 hl (k := 8) rfl (ii_x 1 _) (by decide) rfl (fun ls hl => ?_)
              refine lv_goto (tgt := 18) hx hb dX6_mostKindsAlike_84 (by decide) ?_
              have hK9 := K_of hf hK
              have hK9 := hW18 _ hK9
              exact hK9 _ _ _ hP hD hS (lv_sub hl [3, 4, 5, 6, 7, 8, 1, 0] rfl)
        rintro ⟨x6, x7⟩ res hf hK H locs ls hP hD hS hl
        unfold p_X6_mostKindsAlike_L18 at hf
        dsimp only at hf
        refine lv_iload hx hb dX6_mostKindsAlike_18 (lv_at hl 7 rfl) ?_
        refine lv_iconst (v := (nI 4)) hx hb dX6_mostKindsAlike_20 (ic_4) ?_
        refine lv_icmp_ge (tgt := 87) hx hb dX6_mostKindsAlike_21 (by decide) (fun hc => ?_) (fun hc => ?_)
        · have hf := if_t hf hc
          have hK9 := K_of hf hK
          have hK9 := hX18 _ hK9
          exact hK9 _ _ _ hP hD hS (lv_sub hl [0, 1, 2, 3, 4, 5, 6] rfl)
        · have hf := if_f hf hc
          refine lv_iload_n hx hb dX6_mostKindsAlike_24 rfl (lv_at hl 1 rfl) ?_
          refine lv_iload hx hb dX6_mostKindsAlike_25 (lv_at hl 5 rfl) ?_
          refine lv_ishr hx hb dX6_mostKindsAlike_27 ?_
          refine lv_iload_n hx hb dX6_mostKindsAlike_28 rfl (lv_at hl 1 rfl) ?_
          refine lv_iload hx hb dX6_mostKindsAlike_29 (lv_at hl 7 rfl) ?_
          refine lv_ishr hx hb dX6_mostKindsAlike_31 ?_
          refine lv_iand hx hb dX6_mostKindsAlike_32 ?_
          refine lv_iconst (v := (nI 1)) hx hb dX6_mostKindsAlike_33 (ic_1) ?_
          refine lv_iand hx hb dX6_mostKindsAlike_34 ?_
          refine lv_iconst (v := (nI 1)) hx hb dX6_mostKindsAlike_35 (ic_1) ?_
          refine lv_icmp_ne (tgt := 43) hx hb dX6_mostKindsAlike_36 (by decide) (fun hc => ?_) (fun hc => ?_)
          · have hf := if_f hf hc
            refine lv_iconst (v := (nI 0)) hx hb dX6_mostKindsAlike_43 (ic_0) ?_
            exact hB44 x6 x7 (nI 0) _ hf hK _ _ _ hP hD hS (lv_sub hl [0, 1, 2, 3, 4, 5, 6, 7] rfl)
          · have hf := if_t hf hc
            refine lv_iconst (v := (nI 1)) hx hb dX6_mostKindsAlike_39 (ic_1) ?_
            refine lv_goto (tgt := 44) hx hb dX6_mostKindsAlike_40 (by decide) ?_
            exact hB44 x6 x7 (nI 1) _ hf hK _ _ _ hP hD hS (lv_sub hl [0, 1, 2, 3, 4, 5, 6, 7] rfl)
      · try dsimp only at hf
        show ∀ (H : Heap) (locs : List Loc) (ls : Array Slot), va_P G.1 vwCl (wX6 G ad ado f) H → va_D A (wX6 G ad ado f) → va_S A s.heap H locs → lv_has ls 9 [(0, .ref (ad 0)), (1, .int x1), (2, .int x2), (3, .int x3), (4, .int x4), (5, .int x5), (6, .int y6_18)] → W p l e ({ frames := 2, cells := 0, slots := 0, locals := 40 }) s m args below meth c H locs 0 0 Q (F0 m 87 ls [])
        intro H locs ls hP hD hS hl
        refine lv_iload hx hb dX6_mostKindsAlike_87 (lv_at hl 4 rfl) ?_
        refine lv_iload hx hb dX6_mostKindsAlike_89 (lv_at hl 6 rfl) ?_
        refine va_mmax hx hb (hml.trans hl.1.symm) hown (hts (.methodLink RX6 243 Lib.Math.max.name) (by decide +kernel)) (hts (.static Lib.Math.max.name) (by decide +kernel)) (hts (.initialized "java/lang/Math") (by decide +kernel)) (hts (.code Lib.Math.max.name Lib.Math.max.code 2 (some .int)) (by decide +kernel)) (Nat.le_of_ble_eq_true rfl) (Nat.le_of_ble_eq_true rfl) (Nat.zero_le _) (Nat.zero_le _) dX6_mostKindsAlike_91 ?_
        refine lv_istore (lv' := [(4, .int (if x4 < y6_18 then y6_18 else x4)), (0, .ref (ad 0)), (1, .int x1), (2, .int x2), (3, .int x3), (5, .int x5), (6, .int y6_18)]) hx hb dX6_mostKindsAlike_94 hl (by decide) rfl (fun ls hl => ?_)
        refine lv_iinc (v := (x5 + nI 1)) (lv' := [(5, .int (x5 + nI 1)), (4, .int (if x4 < y6_18 then y6_18 else x4)), (0, .ref (ad 0)), (1, .int x1), (2, .int x2), (3, .int x3), (6, .int y6_18)]) hx hb dX6_mostKindsAlike_96 hl (k := 5) rfl (ii_x 1 _) (by decide) rfl (fun ls hl => ?_)
        refine lv_goto (tgt := 6) hx hb dX6_mostKindsAlike_99 (by decide) ?_
        have hK9 := K_of hf hK
        have hK9 := hW6 _ hK9
        exact hK9 _ _ _ hP hD hS (lv_sub hl [2, 3, 4, 5, 1, 0] rfl)
  · try dsimp only at hf
    show ∀ (H : Heap) (locs : List Loc) (ls : Array Slot), va_P G.1 vwCl (wX6 G ad ado f) H → va_D A (wX6 G ad ado f) → va_S A s.heap H locs → lv_has ls 9 [(4, .int y4_6)] → W p l e ({ frames := 2, cells := 0, slots := 0, locals := 40 }) s m args below meth c H locs 0 0 Q (F0 m 102 ls [])
    intro H locs ls hP hD hS hl
    refine lv_iload hx hb dX6_mostKindsAlike_102 (lv_at hl 0 rfl) ?_
    have hK9 := K0_of hf hK
    exact hRet y4_6 _ _ _ _ hK9 dX6_mostKindsAlike_104 hP hD hS
noncomputable def p_X6_look_L56 (f : Mem) (fnow : Mem) (ftrial : Mem) (fsightings : Mem) (x2 : Int32) (x3 : Int32) (x6 : Int32) (z : Int32 × Int32 × Int32) : Option ((Int32 × Int32 × Int32) ⊕ (Int32 × Int32)) :=
  match z with
  | (x4, x5, x7) =>
    if (nI 5) ≤ x7 then
      (some (Sum.inr (x4, x5)))
    else
      (Option.bind (p_X6_mostKindsAlike f x3 x6 x7) <| fun r68 =>
       if x4 ≤ r68 then
         (some (Sum.inl (x4, x5, (x7 + nI 1))))
       else
         (some (Sum.inl (r68, (((nI 10) * x6) + x7), (x7 + nI 1)))))
noncomputable def p_X6_look_L46 (f : Mem) (fnow : Mem) (ftrial : Mem) (fsightings : Mem) (x2 : Int32) (x3 : Int32) (z : Int32 × Int32 × Int32) : Option ((Int32 × Int32 × Int32) ⊕ (Int32 × Int32)) :=
  match z with
  | (x4, x5, x6) =>
    if (nI 20) < x6 then
      (some (Sum.inr (x4, x5)))
    else
      (Option.bind (lp (p_X6_look_L56 f fnow ftrial fsightings x2 x3 x6) (x4, x5, (nI 0))) <| fun (y4_56, y5_56) =>
       some (Sum.inl (y4_56, y5_56, (x6 + nI 1))))
noncomputable def p_X6_look (f : Mem) (fnow : Mem) (ftrial : Mem) (fsightings : Mem) (x1 : Int32) (x2 : Int32) : Option (Int32 × Mem × Mem) :=
  Option.bind (p_X0_hasGoose fnow x1) <| fun r5 =>
  if r5 = 0 then
    (some ((-1 : Int32), f, ftrial))
  else
    (Option.bind (p_X6_isWithin x2 (nI 0) (nI 1)) <| fun r14 =>
     if r14 = 0 then
       (some ((-1 : Int32), f, ftrial))
     else
       (Option.bind (p_X6_kindsAsSeen f fnow ftrial fsightings x1) <| fun (r24, ftrial_24) =>
        Option.bind (p_X6_foretellByKind f fnow ftrial_24 x1) <| fun (f_30, ftrial_30) =>
        Option.bind (p_J6_bitCount_0f7a4 r24) <| fun r34 =>
        Option.bind (lp (p_X6_look_L46 f_30 fnow ftrial_30 fsightings x2 r24) (r34, (-4 : Int32), (nI 0))) <| fun (y4_46, y5_46) =>
        if x2 = 0 then
          (some (y5_46, f_30, ftrial_30))
        else
          (if y5_46 = (-4 : Int32) then
             (some (y5_46, f_30, ftrial_30))
           else
             (some (y4_46, f_30, ftrial_30)))))
set_option maxHeartbeats 4000000 in
set_option maxRecDepth 100000 in
theorem c_X6_look (l : Launch) (G : Gt) (ad : Nat → Nat) (ado : Nat → Nat → Nat) (f : Mem) (fnow : Mem) (ftrial : Mem) (fsightings : Mem) (x1 : Int32) (x2 : Int32) (r : Int32) (fz : Mem) (ftrialz : Mem) (hf : p_X6_look f fnow ftrial fsightings x1 x2 = some (r, fz, ftrialz)) (sz : Nat) : Met l yX6_look wsX6_look ({ frames := 6, cells := 0, slots := 0, locals := 155 }) (Pc0 G sz [.ref (ad 0), .int x1, .int x2] (wX6 G ad ado f ++ (wX0 G (ado 1) fnow ++ (wX0 G (ado 2) ftrial ++ (wX3 G (ado 8) fsightings))))) (Qi0 G (va_A (wX6 G ad ado f ++ (wX0 G (ado 1) fnow ++ (wX0 G (ado 2) ftrial ++ (wX3 G (ado 8) fsightings)))) sz) r (wX6 G ad ado fz ++ (wX0 G (ado 1) fnow ++ (wX0 G (ado 2) ftrialz ++ (wX3 G (ado 8) fsightings))))) 0 0 (va_A (wX6 G ad ado f ++ (wX0 G (ado 1) fnow ++ (wX0 G (ado 2) ftrial ++ (wX3 G (ado 8) fsightings)))) sz) := by
  refine metP (Qf := fun A => Qi0 G A r (wX6 G ad ado fz ++ (wX0 G (ado 1) fnow ++ (wX0 G (ado 2) ftrialz ++ (wX3 G (ado 8) fsightings))))) cX6_look 9 (some .int) (by decide) rfl (Nat.le_of_ble_eq_true rfl) ?_
  intro p e s m below meth c A ls hC hr hlocks hin hE hA hsz hP hD hS hl
  generalize hargs : ([.ref (ad 0), .int x1, .int x2] : List Value).toArray = args at hC ⊢
  obtain ⟨hx, hb, hml, hown, hts⟩ := id hC
  have hT : va_K G.1 vwCl (tyL G) s := hE.1
  have hRet : ∀ (r9 : Int32) (f9 : Mem) (ftrial9 : Mem) (H : Heap) (locs : List Loc) (ls : Array Slot) (pc : Nat) (hK9 : (r9, f9, ftrial9) = (r, fz, ftrialz)) (hdg : decode cX6_look pc = .ok (.ireturn, 1)), va_P G.1 vwCl (wX6 G ad ado f9 ++ (wX0 G (ado 1) fnow ++ (wX0 G (ado 2) ftrial9 ++ (wX3 G (ado 8) fsightings)))) H → va_D A (wX6 G ad ado f9 ++ (wX0 G (ado 1) fnow ++ (wX0 G (ado 2) ftrial9 ++ (wX3 G (ado 8) fsightings)))) → va_S A s.heap H locs → W p l e ({ frames := 6, cells := 0, slots := 0, locals := 155 }) s m args below meth c H locs 0 0 (MQ below (Qi0 G A r (wX6 G ad ado fz ++ (wX0 G (ado 1) fnow ++ (wX0 G (ado 2) ftrialz ++ (wX3 G (ado 8) fsightings))))) args s 0 0 A) (F0 m pc ls [.int r9]) := by
    intro r9 f9 ftrial9 H locs ls pc hK9 hdg hP hD hS
    cases hK9
    exact W.iret hx hb hr (fun t ht hW => ⟨⟨r, (), rfl, rfl, by rw [ht]; exact hP, hD⟩, hS.F ht⟩) hS.2.2 hdg hlocks
  generalize MQ below (Qi0 G A r (wX6 G ad ado fz ++ (wX0 G (ado 1) fnow ++ (wX0 G (ado 2) ftrialz ++ (wX3 G (ado 8) fsightings))))) args s 0 0 A = Q at hRet ⊢
  have lk12 := hts (.fieldLink RX6 12 "FeatherShares" "now" "LFeatherShares$Flock;") (by decide +kernel)
  have inX6 : ∀ w ∈ u_ws RX6 TX6 11, w ∈ wsX6_look := by decide +kernel
  have hl : lv_has ls 9 [(0, .ref (ad 0)), (1, .int x1), (2, .int x2)] := hl
  have hK0 : (r, fz, ftrialz) = (r, fz, ftrialz) := rfl
  obtain ⟨res, hres, hK⟩ : ∃ res, p_X6_look f fnow ftrial fsightings x1 x2 = some res ∧ res = (r, fz, ftrialz) := ⟨_, hf, rfl⟩
  clear hf
  have hf := hres
  clear hres
  unfold p_X6_look at hf
  refine lv_aload_n hx hb dX6_look_0 rfl (lv_at hl 0 rfl) ?_
  refine va_get (C := RX6) (T := TX6) (N := 11) (ci := 6) (v := .ref ((ado 1) 0)) hx hb hts inX6 hown hT hP 0 rfl rfl 0 (Nat.le_of_ble_eq_true rfl) lk12 (fun _ h => h) rfl dX6_look_1 ?_
  refine lv_iload_n hx hb dX6_look_4 rfl (lv_at hl 1 rfl) ?_
  obtain ⟨r5, hc5, hf⟩ := bd_e hf
  refine cl_z_ro (Wd := (wX6 G ad ado f ++ (wX0 G (ado 1) fnow ++ (wX0 G (ado 2) ftrial ++ (wX3 G (ado 8) fsightings))))) (Wc := (wX0 G (ado 1) fnow)) [4, 5, 6, 7, 8, 9, 10, 11, 12, 13, 14] rfl (va_runVN (As := [.int x1]) (rest := []) hC (c_X0_hasGoose l G (ado 1) fnow x1 r5 hc5 _) ⟨va_cnB 1 hts gX6_look_X0_hasGoose_n126 rfl rfl rfl (hE.2.2 (RX6, 126, yX0_hasGoose, "FeatherShares") (List.mem_of_getElem? (i := 10) rfl)) (hts (.initialized RX0) (by decide +kernel)) (by decide +kernel) ⟨Nat.le_of_ble_eq_true rfl, Nat.le_of_ble_eq_true rfl⟩, hts (.instanceMethod yX0_hasGoose) (by decide +kernel), hts (.selects RX0 yX0_hasGoose yX0_hasGoose) (by decide +kernel)⟩ ⟨Pc0_blind, va_recv hT hP (q0 := 4) (ci := 0) rfl rfl, fun U hU hW => Pc0_at (Wd := (wX0 G (ado 1) fnow)) hE (hP.subm [4, 5, 6, 7, 8, 9, 10, 11, 12, 13, 14] rfl) (hD.sub [4, 5, 6, 7, 8, 9, 10, 11, 12, 13, 14] (by decide) rfl) hU hW⟩ rfl rfl hl.1 rfl (lv_room (Nat.le_of_ble_eq_true rfl)) dX6_look_5 ⟨Nat.zero_le _, Nat.zero_le _⟩) hS hA hP hD (fun H locs hn5 hP hD hS => ?_)
  refine lv_if_eq (tgt := 20) hx hb dX6_look_8 (by decide) (fun hc => ?_) (fun hc => ?_)
  · have hf := if_t hf hc
    refine lv_iconst (v := (-1 : Int32)) hx hb dX6_look_20 (ic_m1) ?_
    have hK9 := K0_of hf hK
    exact hRet (-1 : Int32) f ftrial _ _ _ _ hK9 dX6_look_21 hP hD hS
  · have hf := if_f hf hc
    refine lv_iload_n hx hb dX6_look_11 rfl (lv_at hl 2 rfl) ?_
    refine lv_iconst (v := (nI 0)) hx hb dX6_look_12 (ic_0) ?_
    refine lv_iconst (v := (nI 1)) hx hb dX6_look_13 (ic_1) ?_
    obtain ⟨r14, hc14, hf⟩ := bd_e hf
    refine cl_z_ro (Wd := (wX6 G ad ado f ++ (wX0 G (ado 1) fnow ++ (wX0 G (ado 2) ftrial ++ (wX3 G (ado 8) fsightings))))) (Wc := ([] : va_W)) [] rfl (va_runS (As := [.int x2, .int (nI 0), .int (nI 1)]) (rest := []) hC (c_X6_isWithin l G x2 (nI 0) (nI 1) r14 hc14 _) (va_cwS 3 hts gX6_look_X6_isWithin rfl rfl rfl (by decide +kernel) ⟨Nat.le_of_ble_eq_true rfl, Nat.le_of_ble_eq_true rfl⟩) ⟨Pc0_blind, fun U hU hW => Pc0_at (Wd := ([] : va_W)) hE (hP.subm [] rfl) (hD.sub [] (by decide) rfl) hU hW⟩ rfl rfl hl.1 rfl (lv_room (Nat.le_of_ble_eq_true rfl)) dX6_look_14 ⟨Nat.zero_le _, Nat.zero_le _⟩) hS hA hP hD (fun H locs hn14 hP hD hS => ?_)
    refine lv_if_ne (tgt := 22) hx hb dX6_look_17 (by decide) (fun hc => ?_) (fun hc => ?_)
    · have hf := if_f hf hc
      refine lv_aload_n hx hb dX6_look_22 rfl (lv_at hl 0 rfl) ?_
      refine lv_iload_n hx hb dX6_look_23 rfl (lv_at hl 1 rfl) ?_
      obtain ⟨⟨r24, ftrial_24⟩, hc24, hf⟩ := bd_e hf
      try dsimp only at hf
      refine cl_i_same (Wd := (wX6 G ad ado f ++ (wX0 G (ado 1) fnow ++ (wX0 G (ado 2) ftrial ++ (wX3 G (ado 8) fsightings))))) (W' := (wX6 G ad ado f ++ (wX0 G (ado 1) fnow ++ (wX0 G (ado 2) ftrial_24 ++ (wX3 G (ado 8) fsightings))))) (va_runV (As := [.int x1]) (rest := []) hC (c_X6_kindsAsSeen l G ad ado f fnow ftrial fsightings x1 r24 ftrial_24 hc24 _) (cwV 1 hts gX6_look_X6_kindsAsSeen rfl rfl rfl (by decide +kernel) ⟨Nat.le_of_ble_eq_true rfl, Nat.le_of_ble_eq_true rfl⟩) ⟨Pc0_blind, va_recv hT hP (q0 := 0) (ci := 6) rfl rfl, fun U hU hW => Pc0_at hE hP hD hU hW⟩ rfl rfl hl.1 rfl (lv_room (Nat.le_of_ble_eq_true rfl)) dX6_look_24 ⟨Nat.zero_le _, Nat.zero_le _⟩) hS hA hD (fun H locs hP hD hS => ?_)
      refine lv_istore_n (lv' := [(3, .int r24), (0, .ref (ad 0)), (1, .int x1), (2, .int x2)]) hx hb dX6_look_27 rfl hl (by decide) rfl (fun ls hl => ?_)
      refine lv_aload_n hx hb dX6_look_28 rfl (lv_at hl 1 rfl) ?_
      refine lv_iload_n hx hb dX6_look_29 rfl (lv_at hl 2 rfl) ?_
      obtain ⟨⟨f_30, ftrial_30⟩, hc30, hf⟩ := bd_e hf
      try dsimp only at hf
      refine cl_v_up (Wd := (wX6 G ad ado f ++ (wX0 G (ado 1) fnow ++ (wX0 G (ado 2) ftrial_24 ++ (wX3 G (ado 8) fsightings))))) (Wc := (wX6 G ad ado f ++ (wX0 G (ado 1) fnow ++ (wX0 G (ado 2) ftrial_24)))) (W' := (wX6 G ad ado f_30 ++ (wX0 G (ado 1) fnow ++ (wX0 G (ado 2) ftrial_30)))) (W2 := (wX6 G ad ado f_30 ++ (wX0 G (ado 1) fnow ++ (wX0 G (ado 2) ftrial_30 ++ (wX3 G (ado 8) fsightings))))) [0, 1, 2, 3, 4, 5, 6, 7, 8, 9, 10, 11, 12, 13, 14, 15, 16, 17, 18, 19, 20, 21, 22, 23, 24, 25] [26, 27, 28, 29, 30] rfl rfl rfl rfl rfl (va_runV (As := [.int x1]) (rest := []) hC (c_X6_foretellByKind l G ad ado f fnow ftrial_24 x1 f_30 ftrial_30 hc30 _) (cwV 1 hts gX6_look_X6_foretellByKind rfl rfl rfl (by decide +kernel) ⟨Nat.le_of_ble_eq_true rfl, Nat.le_of_ble_eq_true rfl⟩) ⟨Pc0_blind, va_recv hT hP (q0 := 0) (ci := 6) rfl rfl, fun U hU hW => Pc0_at (Wd := (wX6 G ad ado f ++ (wX0 G (ado 1) fnow ++ (wX0 G (ado 2) ftrial_24)))) hE (hP.subm [0, 1, 2, 3, 4, 5, 6, 7, 8, 9, 10, 11, 12, 13, 14, 15, 16, 17, 18, 19, 20, 21, 22, 23, 24, 25] rfl) (hD.sub [0, 1, 2, 3, 4, 5, 6, 7, 8, 9, 10, 11, 12, 13, 14, 15, 16, 17, 18, 19, 20, 21, 22, 23, 24, 25] (by decide) rfl) hU hW⟩ rfl rfl hl.1 rfl (lv_room (Nat.le_of_ble_eq_true rfl)) dX6_look_30 ⟨Nat.zero_le _, Nat.zero_le _⟩) hS hA hP hD (fun H locs hP hD hS => ?_)
      refine lv_iload_n hx hb dX6_look_33 rfl (lv_at hl 0 rfl) ?_
      obtain ⟨r34, hc34, hf⟩ := bd_e hf
      refine cl_i_ro (Wd := (wX6 G ad ado f_30 ++ (wX0 G (ado 1) fnow ++ (wX0 G (ado 2) ftrial_30 ++ (wX3 G (ado 8) fsightings))))) (Wc := ([] : va_W)) [] rfl (va_runS (As := [.int r24]) (rest := []) hC (c_J6_bitCount_0f7a4 l G r24 r34 hc34 _) (va_cwS 1 hts gX6_look_J6_bitCount_0f7a4 rfl rfl rfl (by decide +kernel) ⟨Nat.le_of_ble_eq_true rfl, Nat.le_of_ble_eq_true rfl⟩) ⟨Pc0_blind, fun U hU hW => Pc0_at (Wd := ([] : va_W)) hE (hP.subm [] rfl) (hD.sub [] (by decide) rfl) hU hW⟩ rfl rfl hl.1 rfl (lv_room (Nat.le_of_ble_eq_true rfl)) dX6_look_34 ⟨Nat.zero_le _, Nat.zero_le _⟩) hS hA hP hD (fun H locs hP hD hS => ?_)
      refine lv_istore (lv' := [(4, .int r34), (3, .int r24), (0, .ref (ad 0)), (1, .int x1), (2, .int x2)]) hx hb dX6_look_37 hl (by decide) rfl (fun ls hl => ?_)
      refine lv_bipush (v := (-4 : Int32)) hx hb dX6_look_39 (bi_m4) ?_
      refine lv_istore (lv' := [(5, .int (-4 : Int32)), (4, .int r34), (3, .int r24), (0, .ref (ad 0)), (1, .int x1), (2, .int x2)]) hx hb dX6_look_41 hl (by decide) rfl (fun ls hl => ?_)
      refine lv_iconst (v := (nI 0)) hx hb dX6_look_43 (ic_0) ?_
      refine lv_istore (lv' := [(6, .int (nI 0)), (5, .int (-4 : Int32)), (4, .int r34), (3, .int r24), (0, .ref (ad 0)), (1, .int x1), (2, .int x2)]) hx hb dX6_look_44 hl (by decide) rfl (fun ls hl => ?_)
      obtain ⟨⟨y4_46, y5_46⟩, hlp, hf⟩ := bd_e hf
      refine lp_W1 (p_X6_look_L46 f_30 fnow ftrial_30 fsightings x2 r24) (fun z => match z with | (x4, x5, x6) => ∀ (H : Heap) (locs : List Loc) (ls : Array Slot), va_P G.1 vwCl (wX6 G ad ado f_30 ++ (wX0 G (ado 1) fnow ++ (wX0 G (ado 2) ftrial_30 ++ (wX3 G (ado 8) fsightings)))) H → va_D A (wX6 G ad ado f_30 ++ (wX0 G (ado 1) fnow ++ (wX0 G (ado 2) ftrial_30 ++ (wX3 G (ado 8) fsightings)))) → va_S A s.heap H locs → lv_has ls 9 [(0, .ref (ad 0)), (2, .int x2), (3, .int r24), (4, .int x4), (5, .int x5), (6, .int x6)] → W p l e ({ frames := 6, cells := 0, slots := 0, locals := 155 }) s m args below meth c H locs 0 0 Q (F0 m 46 ls [])) (fun z => match z with | (y4_46, y5_46) => ∀ (H : Heap) (locs : List Loc) (ls : Array Slot), va_P G.1 vwCl (wX6 G ad ado f_30 ++ (wX0 G (ado 1) fnow ++ (wX0 G (ado 2) ftrial_30 ++ (wX3 G (ado 8) fsightings)))) H → va_D A (wX6 G ad ado f_30 ++ (wX0 G (ado 1) fnow ++ (wX0 G (ado 2) ftrial_30 ++ (wX3 G (ado 8) fsightings)))) → va_S A s.heap H locs → lv_has ls 9 [(2, .int x2), (4, .int y4_46), (5, .int y5_46)] → W p l e ({ frames := 6, cells := 0, slots := 0, locals := 155 }) s m args below meth c H locs 0 0 Q (F0 m 106 ls [])) ?_ hlp ?_ _ _ _ hP hD hS (lv_sub hl [4, 6, 3, 2, 1, 0] rfl)
      · clear hlp hf hK hP hD hS hl
        generalize f_30 = f
        generalize ftrial_30 = ftrial
        generalize r24 = x3
        intro K46 hW46 hX46 
        rintro ⟨x4, x5, x6⟩ res hf hK H locs ls hP hD hS hl
        unfold p_X6_look_L46 at hf
        dsimp only at hf
        refine lv_iload hx hb dX6_look_46 (lv_at hl 5 rfl) ?_
        refine lv_bipush (v := (nI 20)) hx hb dX6_look_48 (bi_20) ?_
        refine lv_icmp_gt (tgt := 106) hx hb dX6_look_50 (by decide) (fun hc => ?_) (fun hc => ?_)
        · have hf := if_t hf hc
          have hK9 := K_of hf hK
          have hK9 := hX46 _ hK9
          exact hK9 _ _ _ hP hD hS (lv_sub hl [1, 3, 4] rfl)
        · have hf := if_f hf hc
          refine lv_iconst (v := (nI 0)) hx hb dX6_look_53 (ic_0) ?_
          refine lv_istore (lv' := [(7, .int (nI 0)), (0, .ref (ad 0)), (2, .int x2), (3, .int x3), (4, .int x4), (5, .int x5), (6, .int x6)]) hx hb dX6_look_54 hl (by decide) rfl (fun ls hl => ?_)
          obtain ⟨⟨y4_56, y5_56⟩, hlp, hf⟩ := bd_e hf
          refine lp_W1 (p_X6_look_L56 f fnow ftrial fsightings x2 x3 x6) (fun z => match z with | (x4, x5, x7) => ∀ (H : Heap) (locs : List Loc) (ls : Array Slot), va_P G.1 vwCl (wX6 G ad ado f ++ (wX0 G (ado 1) fnow ++ (wX0 G (ado 2) ftrial ++ (wX3 G (ado 8) fsightings)))) H → va_D A (wX6 G ad ado f ++ (wX0 G (ado 1) fnow ++ (wX0 G (ado 2) ftrial ++ (wX3 G (ado 8) fsightings)))) → va_S A s.heap H locs → lv_has ls 9 [(0, .ref (ad 0)), (2, .int x2), (3, .int x3), (4, .int x4), (5, .int x5), (6, .int x6), (7, .int x7)] → W p l e ({ frames := 6, cells := 0, slots := 0, locals := 155 }) s m args below meth c H locs 0 0 Q (F0 m 56 ls [])) (fun z => match z with | (y4_56, y5_56) => ∀ (H : Heap) (locs : List Loc) (ls : Array Slot), va_P G.1 vwCl (wX6 G ad ado f ++ (wX0 G (ado 1) fnow ++ (wX0 G (ado 2) ftrial ++ (wX3 G (ado 8) fsightings)))) H → va_D A (wX6 G ad ado f ++ (wX0 G (ado 1) fnow ++ (wX0 G (ado 2) ftrial ++ (wX3 G (ado 8) fsightings)))) → va_S A s.heap H locs → lv_has ls 9 [(0, .ref (ad 0)), (2, .int x2), (3, .int x3), (4, .int y4_56), (5, .int y5_56), (6, .int x6)] → W p l e ({ frames := 6, cells := 0, slots := 0, locals := 155 }) s m args below meth c H locs 0 0 Q (F0 m 100 ls [])) ?_ hlp ?_ _ _ _ hP hD hS (lv_sub hl [1, 2, 3, 4, 5, 6, 0] rfl)
          · clear hlp hf hK hP hD hS hl
            intro K56 hW56 hX56 
            rintro ⟨x4, x5, x7⟩ res hf hK H locs ls hP hD hS hl
            unfold p_X6_look_L56 at hf
            dsimp only at hf
            refine lv_iload hx hb dX6_look_56 (lv_at hl 6 rfl) ?_
            refine lv_iconst (v := (nI 5)) hx hb dX6_look_58 (ic_5) ?_
            refine lv_icmp_ge (tgt := 100) hx hb dX6_look_59 (by decide) (fun hc => ?_) (fun hc => ?_)
            · have hf := if_t hf hc
              have hK9 := K_of hf hK
              have hK9 := hX56 _ hK9
              exact hK9 _ _ _ hP hD hS (lv_sub hl [0, 1, 2, 3, 4, 5] rfl)
            · have hf := if_f hf hc
              refine lv_aload_n hx hb dX6_look_62 rfl (lv_at hl 0 rfl) ?_
              refine lv_iload_n hx hb dX6_look_63 rfl (lv_at hl 2 rfl) ?_
              refine lv_iload hx hb dX6_look_64 (lv_at hl 5 rfl) ?_
              refine lv_iload hx hb dX6_look_66 (lv_at hl 6 rfl) ?_
              obtain ⟨r68, hc68, hf⟩ := bd_e hf
              refine cl_i_ro (Wd := (wX6 G ad ado f ++ (wX0 G (ado 1) fnow ++ (wX0 G (ado 2) ftrial ++ (wX3 G (ado 8) fsightings))))) (Wc := (wX6 G ad ado f)) [0, 1, 2, 3] rfl (va_runV (As := [.int x3, .int x6, .int x7]) (rest := []) hC (c_X6_mostKindsAlike l G ad ado f x3 x6 x7 r68 hc68 _) (cwV 3 hts gX6_look_X6_mostKindsAlike rfl rfl rfl (by decide +kernel) ⟨Nat.le_of_ble_eq_true rfl, Nat.le_of_ble_eq_true rfl⟩) ⟨Pc0_blind, va_recv hT hP (q0 := 0) (ci := 6) rfl rfl, fun U hU hW => Pc0_at (Wd := (wX6 G ad ado f)) hE (hP.subm [0, 1, 2, 3] rfl) (hD.sub [0, 1, 2, 3] (by decide) rfl) hU hW⟩ rfl rfl hl.1 rfl (lv_room (Nat.le_of_ble_eq_true rfl)) dX6_look_68 ⟨Nat.zero_le _, Nat.zero_le _⟩) hS hA hP hD (fun H locs hP hD hS => ?_)
              refine lv_istore (lv' := [(8, .int r68), (0, .ref (ad 0)), (2, .int x2), (3, .int x3), (4, .int x4), (5, .int x5), (6, .int x6), (7, .int x7)]) hx hb dX6_look_71 hl (by decide) rfl (fun ls hl => ?_)
              refine lv_iload hx hb dX6_look_73 (lv_at hl 0 rfl) ?_
              refine lv_iload hx hb dX6_look_75 (lv_at hl 4 rfl) ?_
              refine lv_icmp_ge (tgt := 94) hx hb dX6_look_77 (by decide) (fun hc => ?_) (fun hc => ?_)
              · have hf := if_t hf hc
                refine lv_iinc (v := (x7 + nI 1)) (lv' := [(7, .int (x7 + nI 1)), (8, .int r68), (0, .ref (ad 0)), (2, .int x2), (3, .int x3), (4, .int x4), (5, .int x5), (6, .int x6)]) hx hb dX6_look_94 hl (k := 7) rfl (ii_x 1 _) (by decide) rfl (fun ls hl => ?_)
                refine lv_goto (tgt := 56) hx hb dX6_look_97 (by decide) ?_
                have hK9 := K_of hf hK
                have hK9 := hW56 _ hK9
                exact hK9 _ _ _ hP hD hS (lv_sub hl [2, 3, 4, 5, 6, 7, 0] rfl)
              · have hf := if_f hf hc
                refine lv_iload hx hb dX6_look_80 (lv_at hl 0 rfl) ?_
                refine lv_istore (lv' := [(4, .int r68), (8, .int r68), (0, .ref (ad 0)), (2, .int x2), (3, .int x3), (5, .int x5), (6, .int x6), (7, .int x7)]) hx hb dX6_look_82 hl (by decide) rfl (fun ls hl => ?_)
                refine lv_bipush (v := (nI 10)) hx hb dX6_look_84 (bi_10) ?_
                refine lv_iload hx hb dX6_look_86 (lv_at hl 6 rfl) ?_
                refine lv_imul hx hb dX6_look_88 ?_
                refine lv_iload hx hb dX6_look_89 (lv_at hl 7 rfl) ?_
                refine lv_iadd hx hb dX6_look_91 ?_
                refine lv_istore (lv' := [(5, .int (((nI 10) * x6) + x7)), (4, .int r68), (8, .int r68), (0, .ref (ad 0)), (2, .int x2), (3, .int x3), (6, .int x6), (7, .int x7)]) hx hb dX6_look_92 hl (by decide) rfl (fun ls hl => ?_)
                refine lv_iinc (v := (x7 + nI 1)) (lv' := [(7, .int (x7 + nI 1)), (5, .int (((nI 10) * x6) + x7)), (4, .int r68), (8, .int r68), (0, .ref (ad 0)), (2, .int x2), (3, .int x3), (6, .int x6)]) hx hb dX6_look_94 hl (k := 7) rfl (ii_x 1 _) (by decide) rfl (fun ls hl => ?_)
                refine lv_goto (tgt := 56) hx hb dX6_look_97 (by decide) ?_
                have hK9 := K_of hf hK
                have hK9 := hW56 _ hK9
                exact hK9 _ _ _ hP hD hS (lv_sub hl [4, 5, 6, 2, 1, 7, 0] rfl)
          · try dsimp only at hf
            show ∀ (H : Heap) (locs : List Loc) (ls : Array Slot), va_P G.1 vwCl (wX6 G ad ado f ++ (wX0 G (ado 1) fnow ++ (wX0 G (ado 2) ftrial ++ (wX3 G (ado 8) fsightings)))) H → va_D A (wX6 G ad ado f ++ (wX0 G (ado 1) fnow ++ (wX0 G (ado 2) ftrial ++ (wX3 G (ado 8) fsightings)))) → va_S A s.heap H locs → lv_has ls 9 [(0, .ref (ad 0)), (2, .int x2), (3, .int x3), (4, .int y4_56), (5, .int y5_56), (6, .int x6)] → W p l e ({ frames := 6, cells := 0, slots := 0, locals := 155 }) s m args below meth c H locs 0 0 Q (F0 m 100 ls [])
            intro H locs ls hP hD hS hl
            refine lv_iinc (v := (x6 + nI 1)) (lv' := [(6, .int (x6 + nI 1)), (0, .ref (ad 0)), (2, .int x2), (3, .int x3), (4, .int y4_56), (5, .int y5_56)]) hx hb dX6_look_100 hl (k := 5) rfl (ii_x 1 _) (by decide) rfl (fun ls hl => ?_)
            refine lv_goto (tgt := 46) hx hb dX6_look_103 (by decide) ?_
            have hK9 := K_of hf hK
            have hK9 := hW46 _ hK9
            exact hK9 _ _ _ hP hD hS (lv_sub hl [1, 2, 3, 4, 5, 0] rfl)
      · try dsimp only at hf
        show ∀ (H : Heap) (locs : List Loc) (ls : Array Slot), va_P G.1 vwCl (wX6 G ad ado f_30 ++ (wX0 G (ado 1) fnow ++ (wX0 G (ado 2) ftrial_30 ++ (wX3 G (ado 8) fsightings)))) H → va_D A (wX6 G ad ado f_30 ++ (wX0 G (ado 1) fnow ++ (wX0 G (ado 2) ftrial_30 ++ (wX3 G (ado 8) fsightings)))) → va_S A s.heap H locs → lv_has ls 9 [(2, .int x2), (4, .int y4_46), (5, .int y5_46)] → W p l e ({ frames := 6, cells := 0, slots := 0, locals := 155 }) s m args below meth c H locs 0 0 Q (F0 m 106 ls [])
        intro H locs ls hP hD hS hl
        refine lv_iload_n hx hb dX6_look_106 rfl (lv_at hl 0 rfl) ?_
        refine lv_if_eq (tgt := 117) hx hb dX6_look_107 (by decide) (fun hc => ?_) (fun hc => ?_)
        · have hf := if_t hf hc
          refine lv_iload hx hb dX6_look_117 (lv_at hl 2 rfl) ?_
          refine lv_goto (tgt := 124) hx hb dX6_look_119 (by decide) ?_
          have hK9 := K0_of hf hK
          exact hRet y5_46 f_30 ftrial_30 _ _ _ _ hK9 dX6_look_124 hP hD hS
        · have hf := if_f hf hc
          refine lv_iload hx hb dX6_look_110 (lv_at hl 2 rfl) ?_
          refine lv_bipush (v := (-4 : Int32)) hx hb dX6_look_112 (bi_m4) ?_
          refine lv_icmp_ne (tgt := 122) hx hb dX6_look_114 (by decide) (fun hc => ?_) (fun hc => ?_)
          · have hf := if_f hf hc
            refine lv_iload hx hb dX6_look_122 (lv_at hl 1 rfl) ?_
            have hK9 := K0_of hf hK
            exact hRet y4_46 f_30 ftrial_30 _ _ _ _ hK9 dX6_look_124 hP hD hS
          · have hf := if_t hf hc
            refine lv_iload hx hb dX6_look_117 (lv_at hl 2 rfl) ?_
            refine lv_goto (tgt := 124) hx hb dX6_look_119 (by decide) ?_
            have hK9 := K0_of hf hK
            exact hRet y5_46 f_30 ftrial_30 _ _ _ _ hK9 dX6_look_124 hP hD hS
    · have hf := if_t hf hc
      refine lv_iconst (v := (-1 : Int32)) hx hb dX6_look_20 (ic_m1) ?_
      have hK9 := K0_of hf hK
      exact hRet (-1 : Int32) f ftrial _ _ _ _ hK9 dX6_look_21 hP hD hS
noncomputable def p_X6_drift_L58 (f : Mem) (fnow : Mem) (x2 : Int32) (x3 : Int32) (z : Int32 × Int32 × Int32 × Int32 × Mem) : Option ((Int32 × Int32 × Int32 × Int32 × Mem) ⊕ (Int32 × Int32 × Mem)) :=
  match z with
  | (x4, x5, x6, x7, ftrial_) =>
    if x2 ≤ x7 then
      (some (Sum.inr (x5, x6, ftrial_)))
    else
      (Option.bind (p_X0_tryDrawn ftrial_ (((((x4 * (1103515245 : Int32)) + (nI 12345)).toUInt32 >>> ((nI 16).toUInt32 &&& Int32.toUInt32 31)).toInt32) &&& (nI 32767))) <| fun (r89, ftrial_89) =>
       if r89 = 0 then
         (Option.bind (p_X0_passWeek ftrial_89) <| fun (r107, ftrial_107) =>
          some (Sum.inl (((x4 * (1103515245 : Int32)) + (nI 12345)), (x5 + r107), x6, (x7 + nI 1), ftrial_107)))
       else
         (some (Sum.inl (((x4 * (1103515245 : Int32)) + (nI 12345)), x5, (x6 + nI 1), (x7 + nI 1), ftrial_89))))
noncomputable def p_X6_drift (f : Mem) (fnow : Mem) (ftrial : Mem) (x1 : Int32) (x2 : Int32) (x3 : Int32) : Option (Int32 × Mem) :=
  Option.bind (p_X6_isWithin x2 (nI 1) (nI 60)) <| fun r4 =>
  if r4 = 0 then
    (some ((-1 : Int32), ftrial))
  else
    (Option.bind (p_X6_isWithin x3 (nI 0) (nI 1)) <| fun r13 =>
     if r13 = 0 then
       (some ((-1 : Int32), ftrial))
     else
       (if (nI 1) ≤ (fnow 0 0) then
          (Option.bind (p_X0_copyFrom ftrial fnow) <| fun ftrial_43 =>
           Option.bind (lp (p_X6_drift_L58 f fnow x2 x3) (x1, (nI 0), (nI 0), (nI 0), ftrial_43)) <| fun (y5_58, y6_58, ftrial_58) =>
           if x3 = 0 then
             (some (y5_58, ftrial_58))
           else
             (some (y6_58, ftrial_58)))
        else
          (some ((-2 : Int32), ftrial))))
set_option maxHeartbeats 4000000 in
set_option maxRecDepth 100000 in
theorem c_X6_drift (l : Launch) (G : Gt) (ad : Nat → Nat) (ado : Nat → Nat → Nat) (f : Mem) (fnow : Mem) (ftrial : Mem) (x1 : Int32) (x2 : Int32) (x3 : Int32) (r : Int32) (ftrialz : Mem) (hf : p_X6_drift f fnow ftrial x1 x2 x3 = some (r, ftrialz)) (sz : Nat) : Met l yX6_drift wsX6_drift ({ frames := 6, cells := 0, slots := 0, locals := 128 }) (Pc0 G sz [.ref (ad 0), .int x1, .int x2, .int x3] (wX6 G ad ado f ++ (wX0 G (ado 1) fnow ++ (wX0 G (ado 2) ftrial)))) (Qi0 G (va_A (wX6 G ad ado f ++ (wX0 G (ado 1) fnow ++ (wX0 G (ado 2) ftrial))) sz) r (wX6 G ad ado f ++ (wX0 G (ado 1) fnow ++ (wX0 G (ado 2) ftrialz)))) 0 0 (va_A (wX6 G ad ado f ++ (wX0 G (ado 1) fnow ++ (wX0 G (ado 2) ftrial))) sz) := by
  refine metP (Qf := fun A => Qi0 G A r (wX6 G ad ado f ++ (wX0 G (ado 1) fnow ++ (wX0 G (ado 2) ftrialz)))) cX6_drift 8 (some .int) (by decide) rfl (Nat.le_of_ble_eq_true rfl) ?_
  intro p e s m below meth c A ls hC hr hlocks hin hE hA hsz hP hD hS hl
  generalize hargs : ([.ref (ad 0), .int x1, .int x2, .int x3] : List Value).toArray = args at hC ⊢
  obtain ⟨hx, hb, hml, hown, hts⟩ := id hC
  have hT : va_K G.1 vwCl (tyL G) s := hE.1
  have hRet : ∀ (r9 : Int32) (ftrial9 : Mem) (H : Heap) (locs : List Loc) (ls : Array Slot) (pc : Nat) (hK9 : (r9, ftrial9) = (r, ftrialz)) (hdg : decode cX6_drift pc = .ok (.ireturn, 1)), va_P G.1 vwCl (wX6 G ad ado f ++ (wX0 G (ado 1) fnow ++ (wX0 G (ado 2) ftrial9))) H → va_D A (wX6 G ad ado f ++ (wX0 G (ado 1) fnow ++ (wX0 G (ado 2) ftrial9))) → va_S A s.heap H locs → W p l e ({ frames := 6, cells := 0, slots := 0, locals := 128 }) s m args below meth c H locs 0 0 (MQ below (Qi0 G A r (wX6 G ad ado f ++ (wX0 G (ado 1) fnow ++ (wX0 G (ado 2) ftrialz)))) args s 0 0 A) (F0 m pc ls [.int r9]) := by
    intro r9 ftrial9 H locs ls pc hK9 hdg hP hD hS
    cases hK9
    exact W.iret hx hb hr (fun t ht hW => ⟨⟨r, (), rfl, rfl, by rw [ht]; exact hP, hD⟩, hS.F ht⟩) hS.2.2 hdg hlocks
  generalize MQ below (Qi0 G A r (wX6 G ad ado f ++ (wX0 G (ado 1) fnow ++ (wX0 G (ado 2) ftrialz)))) args s 0 0 A = Q at hRet ⊢
  have lk12 := hts (.fieldLink RX6 12 "FeatherShares" "now" "LFeatherShares$Flock;") (by decide +kernel)
  have inX6 : ∀ w ∈ u_ws RX6 TX6 11, w ∈ wsX6_drift := by decide +kernel
  have lk103 := va_Nw.use (A := args) rfl (hE.2.1 (RX6, 103, "FeatherShares$Flock", "geese", "I", "FeatherShares") (List.mem_of_getElem? (i := 6) rfl))
  have inX0 : ∀ w ∈ u_ws RX0 TX0 13, w ∈ wsX6_drift := by decide +kernel
  have lk16 := hts (.fieldLink RX6 16 "FeatherShares" "trial" "LFeatherShares$Flock;") (by decide +kernel)
  have hl : lv_has ls 8 [(0, .ref (ad 0)), (1, .int x1), (2, .int x2), (3, .int x3)] := hl
  have hK0 : (r, ftrialz) = (r, ftrialz) := rfl
  obtain ⟨res, hres, hK⟩ : ∃ res, p_X6_drift f fnow ftrial x1 x2 x3 = some res ∧ res = (r, ftrialz) := ⟨_, hf, rfl⟩
  clear hf
  have hf := hres
  clear hres
  unfold p_X6_drift at hf
  refine lv_iload_n hx hb dX6_drift_0 rfl (lv_at hl 2 rfl) ?_
  refine lv_iconst (v := (nI 1)) hx hb dX6_drift_1 (ic_1) ?_
  refine lv_bipush (v := (nI 60)) hx hb dX6_drift_2 (bi_60) ?_
  obtain ⟨r4, hc4, hf⟩ := bd_e hf
  refine cl_z_ro (Wd := (wX6 G ad ado f ++ (wX0 G (ado 1) fnow ++ (wX0 G (ado 2) ftrial)))) (Wc := ([] : va_W)) [] rfl (va_runS (As := [.int x2, .int (nI 1), .int (nI 60)]) (rest := []) hC (c_X6_isWithin l G x2 (nI 1) (nI 60) r4 hc4 _) (va_cwS 3 hts gX6_drift_X6_isWithin rfl rfl rfl (by decide +kernel) ⟨Nat.le_of_ble_eq_true rfl, Nat.le_of_ble_eq_true rfl⟩) ⟨Pc0_blind, fun U hU hW => Pc0_at (Wd := ([] : va_W)) hE (hP.subm [] rfl) (hD.sub [] (by decide) rfl) hU hW⟩ rfl rfl hl.1 rfl (lv_room (Nat.le_of_ble_eq_true rfl)) dX6_drift_4 ⟨Nat.zero_le _, Nat.zero_le _⟩) hS hA hP hD (fun H locs hn4 hP hD hS => ?_)
  refine lv_if_eq (tgt := 19) hx hb dX6_drift_7 (by decide) (fun hc => ?_) (fun hc => ?_)
  · have hf := if_t hf hc
    refine lv_iconst (v := (-1 : Int32)) hx hb dX6_drift_19 (ic_m1) ?_
    have hK9 := K0_of hf hK
    exact hRet (-1 : Int32) ftrial _ _ _ _ hK9 dX6_drift_20 hP hD hS
  · have hf := if_f hf hc
    refine lv_iload_n hx hb dX6_drift_10 rfl (lv_at hl 3 rfl) ?_
    refine lv_iconst (v := (nI 0)) hx hb dX6_drift_11 (ic_0) ?_
    refine lv_iconst (v := (nI 1)) hx hb dX6_drift_12 (ic_1) ?_
    obtain ⟨r13, hc13, hf⟩ := bd_e hf
    refine cl_z_ro (Wd := (wX6 G ad ado f ++ (wX0 G (ado 1) fnow ++ (wX0 G (ado 2) ftrial)))) (Wc := ([] : va_W)) [] rfl (va_runS (As := [.int x3, .int (nI 0), .int (nI 1)]) (rest := []) hC (c_X6_isWithin l G x3 (nI 0) (nI 1) r13 hc13 _) (va_cwS 3 hts gX6_drift_X6_isWithin rfl rfl rfl (by decide +kernel) ⟨Nat.le_of_ble_eq_true rfl, Nat.le_of_ble_eq_true rfl⟩) ⟨Pc0_blind, fun U hU hW => Pc0_at (Wd := ([] : va_W)) hE (hP.subm [] rfl) (hD.sub [] (by decide) rfl) hU hW⟩ rfl rfl hl.1 rfl (lv_room (Nat.le_of_ble_eq_true rfl)) dX6_drift_13 ⟨Nat.zero_le _, Nat.zero_le _⟩) hS hA hP hD (fun H locs hn13 hP hD hS => ?_)
    refine lv_if_ne (tgt := 21) hx hb dX6_drift_16 (by decide) (fun hc => ?_) (fun hc => ?_)
    · have hf := if_f hf hc
      refine lv_aload_n hx hb dX6_drift_21 rfl (lv_at hl 0 rfl) ?_
      refine va_get (C := RX6) (T := TX6) (N := 11) (ci := 6) (v := .ref ((ado 1) 0)) hx hb hts inX6 hown hT hP 0 rfl rfl 0 (Nat.le_of_ble_eq_true rfl) lk12 (fun _ h => h) rfl dX6_drift_22 ?_
      refine va_getN (C := RX0) (T := TX0) (N := 13) (ci := 0) (v := .int (fnow 0 0)) hx hb hts inX0 hown hT hP 4 rfl rfl 0 (Nat.le_of_ble_eq_true rfl) lk103 (fun _ h => h) rfl dX6_drift_25 ?_
      refine lv_iconst (v := (nI 1)) hx hb dX6_drift_28 (ic_1) ?_
      refine lv_icmp_ge (tgt := 35) hx hb dX6_drift_29 (by decide) (fun hc => ?_) (fun hc => ?_)
      · have hf := if_t hf hc
        refine lv_aload_n hx hb dX6_drift_35 rfl (lv_at hl 0 rfl) ?_
        refine va_get (C := RX6) (T := TX6) (N := 11) (ci := 6) (v := .ref ((ado 2) 0)) hx hb hts inX6 hown hT hP 0 rfl rfl 1 (Nat.le_of_ble_eq_true rfl) lk16 (fun _ h => h) rfl dX6_drift_36 ?_
        refine lv_aload_n hx hb dX6_drift_39 rfl (lv_at hl 0 rfl) ?_
        refine va_get (C := RX6) (T := TX6) (N := 11) (ci := 6) (v := .ref ((ado 1) 0)) hx hb hts inX6 hown hT hP 0 rfl rfl 0 (Nat.le_of_ble_eq_true rfl) lk12 (fun _ h => h) rfl dX6_drift_40 ?_
        obtain ⟨ftrial_43, hc43, hf⟩ := bd_e hf
        refine cl_v_up (Wd := (wX6 G ad ado f ++ (wX0 G (ado 1) fnow ++ (wX0 G (ado 2) ftrial)))) (Wc := (wX0 G (ado 2) ftrial ++ (wX0 G (ado 1) fnow))) (W' := (wX0 G (ado 2) ftrial_43 ++ (wX0 G (ado 1) fnow))) (W2 := (wX6 G ad ado f ++ (wX0 G (ado 1) fnow ++ (wX0 G (ado 2) ftrial_43)))) [15, 16, 17, 18, 19, 20, 21, 22, 23, 24, 25, 4, 5, 6, 7, 8, 9, 10, 11, 12, 13, 14] [0, 1, 2, 3] rfl rfl rfl rfl rfl (va_runVN (As := [.ref ((ado 1) 0)]) (rest := []) hC (c_X0_copyFrom l G (ado 2) (ado 1) ftrial fnow ftrial_43 hc43 _) ⟨va_cnB 1 hts gX6_drift_X0_copyFrom_n93 rfl rfl rfl (hE.2.2 (RX6, 93, yX0_copyFrom, "FeatherShares") (List.mem_of_getElem? (i := 8) rfl)) (hts (.initialized RX0) (by decide +kernel)) (by decide +kernel) ⟨Nat.le_of_ble_eq_true rfl, Nat.le_of_ble_eq_true rfl⟩, hts (.instanceMethod yX0_copyFrom) (by decide +kernel), hts (.selects RX0 yX0_copyFrom yX0_copyFrom) (by decide +kernel)⟩ ⟨Pc0_blind, va_recv hT hP (q0 := 15) (ci := 0) rfl rfl, fun U hU hW => Pc0_at (Wd := (wX0 G (ado 2) ftrial ++ (wX0 G (ado 1) fnow))) hE (hP.subm [15, 16, 17, 18, 19, 20, 21, 22, 23, 24, 25, 4, 5, 6, 7, 8, 9, 10, 11, 12, 13, 14] rfl) (hD.sub [15, 16, 17, 18, 19, 20, 21, 22, 23, 24, 25, 4, 5, 6, 7, 8, 9, 10, 11, 12, 13, 14] (by decide) rfl) hU hW⟩ rfl rfl hl.1 rfl (lv_room (Nat.le_of_ble_eq_true rfl)) dX6_drift_43 ⟨Nat.zero_le _, Nat.zero_le _⟩) hS hA hP hD (fun H locs hP hD hS => ?_)
        refine lv_iload_n hx hb dX6_drift_46 rfl (lv_at hl 1 rfl) ?_
        refine lv_istore (lv' := [(4, .int x1), (0, .ref (ad 0)), (1, .int x1), (2, .int x2), (3, .int x3)]) hx hb dX6_drift_47 hl (by decide) rfl (fun ls hl => ?_)
        refine lv_iconst (v := (nI 0)) hx hb dX6_drift_49 (ic_0) ?_
        refine lv_istore (lv' := [(5, .int (nI 0)), (4, .int x1), (0, .ref (ad 0)), (1, .int x1), (2, .int x2), (3, .int x3)]) hx hb dX6_drift_50 hl (by decide) rfl (fun ls hl => ?_)
        refine lv_iconst (v := (nI 0)) hx hb dX6_drift_52 (ic_0) ?_
        refine lv_istore (lv' := [(6, .int (nI 0)), (5, .int (nI 0)), (4, .int x1), (0, .ref (ad 0)), (1, .int x1), (2, .int x2), (3, .int x3)]) hx hb dX6_drift_53 hl (by decide) rfl (fun ls hl => ?_)
        refine lv_iconst (v := (nI 0)) hx hb dX6_drift_55 (ic_0) ?_
        refine lv_istore (lv' := [(7, .int (nI 0)), (6, .int (nI 0)), (5, .int (nI 0)), (4, .int x1), (0, .ref (ad 0)), (1, .int x1), (2, .int x2), (3, .int x3)]) hx hb dX6_drift_56 hl (by decide) rfl (fun ls hl => ?_)
        obtain ⟨⟨y5_58, y6_58, ftrial_58⟩, hlp, hf⟩ := bd_e hf
        refine lp_W1 (p_X6_drift_L58 f fnow x2 x3) (fun z => match z with | (x4, x5, x6, x7, ftrial_) => ∀ (H : Heap) (locs : List Loc) (ls : Array Slot), va_P G.1 vwCl (wX6 G ad ado f ++ (wX0 G (ado 1) fnow ++ (wX0 G (ado 2) ftrial_))) H → va_D A (wX6 G ad ado f ++ (wX0 G (ado 1) fnow ++ (wX0 G (ado 2) ftrial_))) → va_S A s.heap H locs → lv_has ls 8 [(0, .ref (ad 0)), (2, .int x2), (3, .int x3), (4, .int x4), (5, .int x5), (6, .int x6), (7, .int x7)] → W p l e ({ frames := 6, cells := 0, slots := 0, locals := 128 }) s m args below meth c H locs 0 0 Q (F0 m 58 ls [])) (fun z => match z with | (y5_58, y6_58, ftrial_58) => ∀ (H : Heap) (locs : List Loc) (ls : Array Slot), va_P G.1 vwCl (wX6 G ad ado f ++ (wX0 G (ado 1) fnow ++ (wX0 G (ado 2) ftrial_58))) H → va_D A (wX6 G ad ado f ++ (wX0 G (ado 1) fnow ++ (wX0 G (ado 2) ftrial_58))) → va_S A s.heap H locs → lv_has ls 8 [(3, .int x3), (5, .int y5_58), (6, .int y6_58)] → W p l e ({ frames := 6, cells := 0, slots := 0, locals := 128 }) s m args below meth c H locs 0 0 Q (F0 m 119 ls [])) ?_ hlp ?_ _ _ _ hP hD hS (lv_sub hl [4, 6, 7, 3, 2, 1, 0] rfl)
        · clear hlp hf hK hP hD hS hl
          intro K58 hW58 hX58 
          rintro ⟨x4, x5, x6, x7, ftrial_⟩ res hf hK H locs ls hP hD hS hl
          unfold p_X6_drift_L58 at hf
          dsimp only at hf
          refine lv_iload hx hb dX6_drift_58 (lv_at hl 6 rfl) ?_
          refine lv_iload_n hx hb dX6_drift_60 rfl (lv_at hl 1 rfl) ?_
          refine lv_icmp_ge (tgt := 119) hx hb dX6_drift_61 (by decide) (fun hc => ?_) (fun hc => ?_)
          · have hf := if_t hf hc
            have hK9 := K_of hf hK
            have hK9 := hX58 _ hK9
            exact hK9 _ _ _ hP hD hS (lv_sub hl [2, 4, 5] rfl)
          · have hf := if_f hf hc
            refine lv_iload hx hb dX6_drift_64 (lv_at hl 3 rfl) ?_
            refine lv_ldcw (v := (1103515245 : Int32)) hx hb hown (hts (.constant RX6 286 (1103515245 : Int32)) (by decide +kernel)) dX6_drift_66 ?_
            refine lv_imul hx hb dX6_drift_69 ?_
            refine lv_sipush (v := (nI 12345)) hx hb dX6_drift_70 (si_12345) ?_
            refine lv_iadd hx hb dX6_drift_73 ?_
            refine lv_istore (lv' := [(4, .int ((x4 * (1103515245 : Int32)) + (nI 12345))), (0, .ref (ad 0)), (2, .int x2), (3, .int x3), (5, .int x5), (6, .int x6), (7, .int x7)]) hx hb dX6_drift_74 hl (by decide) rfl (fun ls hl => ?_)
            refine lv_aload_n hx hb dX6_drift_76 rfl (lv_at hl 1 rfl) ?_
            refine va_get (C := RX6) (T := TX6) (N := 11) (ci := 6) (v := .ref ((ado 2) 0)) hx hb hts inX6 hown hT hP 0 rfl rfl 1 (Nat.le_of_ble_eq_true rfl) lk16 (fun _ h => h) rfl dX6_drift_77 ?_
            refine lv_iload hx hb dX6_drift_80 (lv_at hl 0 rfl) ?_
            refine lv_bipush (v := (nI 16)) hx hb dX6_drift_82 (bi_16) ?_
            refine lv_iushr (v := ((((x4 * (1103515245 : Int32)) + (nI 12345)).toUInt32 >>> ((nI 16).toUInt32 &&& Int32.toUInt32 31)).toInt32)) hx hb dX6_drift_84 rfl ?_
            refine lv_sipush (v := (nI 32767)) hx hb dX6_drift_85 (si_32767) ?_
            refine lv_iand hx hb dX6_drift_88 ?_
            obtain ⟨⟨r89, ftrial_89⟩, hc89, hf⟩ := bd_e hf
            try dsimp only at hf
            refine cl_z_up (Wd := (wX6 G ad ado f ++ (wX0 G (ado 1) fnow ++ (wX0 G (ado 2) ftrial_)))) (Wc := (wX0 G (ado 2) ftrial_)) (W' := (wX0 G (ado 2) ftrial_89)) (W2 := (wX6 G ad ado f ++ (wX0 G (ado 1) fnow ++ (wX0 G (ado 2) ftrial_89)))) [15, 16, 17, 18, 19, 20, 21, 22, 23, 24, 25] [0, 1, 2, 3, 4, 5, 6, 7, 8, 9, 10, 11, 12, 13, 14] rfl rfl rfl rfl rfl (va_runVN (As := [.int (((((x4 * (1103515245 : Int32)) + (nI 12345)).toUInt32 >>> ((nI 16).toUInt32 &&& Int32.toUInt32 31)).toInt32) &&& (nI 32767))]) (rest := []) hC (c_X0_tryDrawn l G (ado 2) ftrial_ (((((x4 * (1103515245 : Int32)) + (nI 12345)).toUInt32 >>> ((nI 16).toUInt32 &&& Int32.toUInt32 31)).toInt32) &&& (nI 32767)) r89 ftrial_89 hc89 _) ⟨va_cnB 1 hts gX6_drift_X0_tryDrawn_n287 rfl rfl rfl (hE.2.2 (RX6, 287, yX0_tryDrawn, "FeatherShares") (List.mem_of_getElem? (i := 32) rfl)) (hts (.initialized RX0) (by decide +kernel)) (by decide +kernel) ⟨Nat.le_of_ble_eq_true rfl, Nat.le_of_ble_eq_true rfl⟩, hts (.instanceMethod yX0_tryDrawn) (by decide +kernel), hts (.selects RX0 yX0_tryDrawn yX0_tryDrawn) (by decide +kernel)⟩ ⟨Pc0_blind, va_recv hT hP (q0 := 15) (ci := 0) rfl rfl, fun U hU hW => Pc0_at (Wd := (wX0 G (ado 2) ftrial_)) hE (hP.subm [15, 16, 17, 18, 19, 20, 21, 22, 23, 24, 25] rfl) (hD.sub [15, 16, 17, 18, 19, 20, 21, 22, 23, 24, 25] (by decide) rfl) hU hW⟩ rfl rfl hl.1 rfl (lv_room (Nat.le_of_ble_eq_true rfl)) dX6_drift_89 ⟨Nat.zero_le _, Nat.zero_le _⟩) hS hA hP hD (fun H locs hn89 hP hD hS => ?_)
            refine lv_if_eq (tgt := 101) hx hb dX6_drift_92 (by decide) (fun hc => ?_) (fun hc => ?_)
            · have hf := if_t hf hc
              refine lv_iload hx hb dX6_drift_101 (lv_at hl 4 rfl) ?_
              refine lv_aload_n hx hb dX6_drift_103 rfl (lv_at hl 1 rfl) ?_
              refine va_get (C := RX6) (T := TX6) (N := 11) (ci := 6) (v := .ref ((ado 2) 0)) hx hb hts inX6 hown hT hP 0 rfl rfl 1 (Nat.le_of_ble_eq_true rfl) lk16 (fun _ h => h) rfl dX6_drift_104 ?_
              obtain ⟨⟨r107, ftrial_107⟩, hc107, hf⟩ := bd_e hf
              try dsimp only at hf
              refine cl_i_up (Wd := (wX6 G ad ado f ++ (wX0 G (ado 1) fnow ++ (wX0 G (ado 2) ftrial_89)))) (Wc := (wX0 G (ado 2) ftrial_89)) (W' := (wX0 G (ado 2) ftrial_107)) (W2 := (wX6 G ad ado f ++ (wX0 G (ado 1) fnow ++ (wX0 G (ado 2) ftrial_107)))) [15, 16, 17, 18, 19, 20, 21, 22, 23, 24, 25] [0, 1, 2, 3, 4, 5, 6, 7, 8, 9, 10, 11, 12, 13, 14] rfl rfl rfl rfl rfl (va_runVN (As := []) (rest := [.int x5]) hC (c_X0_passWeek l G (ado 2) ftrial_89 r107 ftrial_107 hc107 _) ⟨va_cnB 0 hts gX6_drift_X0_passWeek_n207 rfl rfl rfl (hE.2.2 (RX6, 207, yX0_passWeek, "FeatherShares") (List.mem_of_getElem? (i := 25) rfl)) (hts (.initialized RX0) (by decide +kernel)) (by decide +kernel) ⟨Nat.le_of_ble_eq_true rfl, Nat.le_of_ble_eq_true rfl⟩, hts (.instanceMethod yX0_passWeek) (by decide +kernel), hts (.selects RX0 yX0_passWeek yX0_passWeek) (by decide +kernel)⟩ ⟨Pc0_blind, va_recv hT hP (q0 := 15) (ci := 0) rfl rfl, fun U hU hW => Pc0_at (Wd := (wX0 G (ado 2) ftrial_89)) hE (hP.subm [15, 16, 17, 18, 19, 20, 21, 22, 23, 24, 25] rfl) (hD.sub [15, 16, 17, 18, 19, 20, 21, 22, 23, 24, 25] (by decide) rfl) hU hW⟩ rfl rfl hl.1 rfl (lv_room (Nat.le_of_ble_eq_true rfl)) dX6_drift_107 ⟨Nat.zero_le _, Nat.zero_le _⟩) hS hA hP hD (fun H locs hP hD hS => ?_)
              refine lv_iadd hx hb dX6_drift_110 ?_
              refine lv_istore (lv' := [(5, .int (x5 + r107)), (4, .int ((x4 * (1103515245 : Int32)) + (nI 12345))), (0, .ref (ad 0)), (2, .int x2), (3, .int x3), (6, .int x6), (7, .int x7)]) hx hb dX6_drift_111 hl (by decide) rfl (fun ls hl => ?_)
              refine lv_iinc (v := (x7 + nI 1)) (lv' := [(7, .int (x7 + nI 1)), (5, .int (x5 + r107)), (4, .int ((x4 * (1103515245 : Int32)) + (nI 12345))), (0, .ref (ad 0)), (2, .int x2), (3, .int x3), (6, .int x6)]) hx hb dX6_drift_113 hl (k := 6) rfl (ii_x 1 _) (by decide) rfl (fun ls hl => ?_)
              refine lv_goto (tgt := 58) hx hb dX6_drift_116 (by decide) ?_
              have hK9 := K_of hf hK
              have hK9 := hW58 _ hK9
              exact hK9 _ _ _ hP hD hS (lv_sub hl [3, 4, 5, 2, 1, 6, 0] rfl)
            · have hf := if_f hf hc
              refine lv_iinc (v := (x6 + nI 1)) (lv' := [(6, .int (x6 + nI 1)), (4, .int ((x4 * (1103515245 : Int32)) + (nI 12345))), (0, .ref (ad 0)), (2, .int x2), (3, .int x3), (5, .int x5), (7, .int x7)]) hx hb dX6_drift_95 hl (k := 5) rfl (ii_x 1 _) (by decide) rfl (fun ls hl => ?_)
              refine lv_goto (tgt := 113) hx hb dX6_drift_98 (by decide) ?_
              refine lv_iinc (v := (x7 + nI 1)) (lv' := [(7, .int (x7 + nI 1)), (6, .int (x6 + nI 1)), (4, .int ((x4 * (1103515245 : Int32)) + (nI 12345))), (0, .ref (ad 0)), (2, .int x2), (3, .int x3), (5, .int x5)]) hx hb dX6_drift_113 hl (k := 6) rfl (ii_x 1 _) (by decide) rfl (fun ls hl => ?_)
              refine lv_goto (tgt := 58) hx hb dX6_drift_116 (by decide) ?_
              have hK9 := K_of hf hK
              have hK9 := hW58 _ hK9
              exact hK9 _ _ _ hP hD hS (lv_sub hl [3, 4, 5, 2, 6, 1, 0] rfl)
        · try dsimp only at hf
          show ∀ (H : Heap) (locs : List Loc) (ls : Array Slot), va_P G.1 vwCl (wX6 G ad ado f ++ (wX0 G (ado 1) fnow ++ (wX0 G (ado 2) ftrial_58))) H → va_D A (wX6 G ad ado f ++ (wX0 G (ado 1) fnow ++ (wX0 G (ado 2) ftrial_58))) → va_S A s.heap H locs → lv_has ls 8 [(3, .int x3), (5, .int y5_58), (6, .int y6_58)] → W p l e ({ frames := 6, cells := 0, slots := 0, locals := 128 }) s m args below meth c H locs 0 0 Q (F0 m 119 ls [])
          intro H locs ls hP hD hS hl
          refine lv_iload_n hx hb dX6_drift_119 rfl (lv_at hl 0 rfl) ?_
          refine lv_if_ne (tgt := 128) hx hb dX6_drift_120 (by decide) (fun hc => ?_) (fun hc => ?_)
          · have hf := if_f hf hc
            refine lv_iload hx hb dX6_drift_128 (lv_at hl 2 rfl) ?_
            have hK9 := K0_of hf hK
            exact hRet y6_58 ftrial_58 _ _ _ _ hK9 dX6_drift_130 hP hD hS
          · have hf := if_t hf hc
            refine lv_iload hx hb dX6_drift_123 (lv_at hl 1 rfl) ?_
            refine lv_goto (tgt := 130) hx hb dX6_drift_125 (by decide) ?_
            have hK9 := K0_of hf hK
            exact hRet y5_58 ftrial_58 _ _ _ _ hK9 dX6_drift_130 hP hD hS
      · have hf := if_f hf hc
        refine lv_bipush (v := (-2 : Int32)) hx hb dX6_drift_32 (bi_m2) ?_
        have hK9 := K0_of hf hK
        exact hRet (-2 : Int32) ftrial _ _ _ _ hK9 dX6_drift_34 hP hD hS
    · have hf := if_t hf hc
      refine lv_iconst (v := (-1 : Int32)) hx hb dX6_drift_19 (ic_m1) ?_
      have hK9 := K0_of hf hK
      exact hRet (-1 : Int32) ftrial _ _ _ _ hK9 dX6_drift_20 hP hD hS
noncomputable def p_X6_keep (f : Mem) (fnow : Mem) (fimg0 : Mem) (fimg1 : Mem) (x1 : Int32) : Option (Int32 × Mem × Mem × Mem) :=
  Option.bind (p_X6_isWithin x1 (nI 0) (nI 1)) <| fun r3 =>
  if r3 = 0 then
    (some ((-1 : Int32), f, fimg0, fimg1))
  else
    (if x1 = nI 0 then
       (Option.bind (p_X0_copyFrom fimg0 fnow) <| fun fimg0_30 =>
       some ((((f 0 0) >>> (x1 &&& 31)) &&& (nI 1)), (mset 0 0 ((f 0 0) ||| ((nI 1) <<< (x1 &&& 31))) f), fimg0_30, fimg1))
     else if x1 = nI 1 then
       (Option.bind (p_X0_copyFrom fimg1 fnow) <| fun fimg1_30 =>
       some ((((f 0 0) >>> (x1 &&& 31)) &&& (nI 1)), (mset 0 0 ((f 0 0) ||| ((nI 1) <<< (x1 &&& 31))) f), fimg0, fimg1_30))
     else none)
set_option maxHeartbeats 4000000 in
set_option maxRecDepth 100000 in
theorem c_X6_keep (l : Launch) (G : Gt) (ad : Nat → Nat) (ado : Nat → Nat → Nat) (f : Mem) (fnow : Mem) (fimg0 : Mem) (fimg1 : Mem) (x1 : Int32) (r : Int32) (fz : Mem) (fimg0z : Mem) (fimg1z : Mem) (hf : p_X6_keep f fnow fimg0 fimg1 x1 = some (r, fz, fimg0z, fimg1z)) (sz : Nat) : Met l yX6_keep wsX6_keep ({ frames := 2, cells := 0, slots := 0, locals := 61 }) (Pc0 G sz [.ref (ad 0), .int x1] (wX6 G ad ado f ++ (wX0 G (ado 1) fnow ++ (wX0 G (ado 3) fimg0 ++ (wX0 G (ado 4) fimg1))))) (Qi0 G (va_A (wX6 G ad ado f ++ (wX0 G (ado 1) fnow ++ (wX0 G (ado 3) fimg0 ++ (wX0 G (ado 4) fimg1)))) sz) r (wX6 G ad ado fz ++ (wX0 G (ado 1) fnow ++ (wX0 G (ado 3) fimg0z ++ (wX0 G (ado 4) fimg1z))))) 0 0 (va_A (wX6 G ad ado f ++ (wX0 G (ado 1) fnow ++ (wX0 G (ado 3) fimg0 ++ (wX0 G (ado 4) fimg1)))) sz) := by
  refine metP (Qf := fun A => Qi0 G A r (wX6 G ad ado fz ++ (wX0 G (ado 1) fnow ++ (wX0 G (ado 3) fimg0z ++ (wX0 G (ado 4) fimg1z))))) cX6_keep 3 (some .int) (by decide) rfl (Nat.le_of_ble_eq_true rfl) ?_
  intro p e s m below meth c A ls hC hr hlocks hin hE hA hsz hP hD hS hl
  generalize hargs : ([.ref (ad 0), .int x1] : List Value).toArray = args at hC ⊢
  obtain ⟨hx, hb, hml, hown, hts⟩ := id hC
  have hT : va_K G.1 vwCl (tyL G) s := hE.1
  have hRet : ∀ (r9 : Int32) (f9 : Mem) (fimg09 : Mem) (fimg19 : Mem) (H : Heap) (locs : List Loc) (ls : Array Slot) (pc : Nat) (hK9 : (r9, f9, fimg09, fimg19) = (r, fz, fimg0z, fimg1z)) (hdg : decode cX6_keep pc = .ok (.ireturn, 1)), va_P G.1 vwCl (wX6 G ad ado f9 ++ (wX0 G (ado 1) fnow ++ (wX0 G (ado 3) fimg09 ++ (wX0 G (ado 4) fimg19)))) H → va_D A (wX6 G ad ado f9 ++ (wX0 G (ado 1) fnow ++ (wX0 G (ado 3) fimg09 ++ (wX0 G (ado 4) fimg19)))) → va_S A s.heap H locs → W p l e ({ frames := 2, cells := 0, slots := 0, locals := 61 }) s m args below meth c H locs 0 0 (MQ below (Qi0 G A r (wX6 G ad ado fz ++ (wX0 G (ado 1) fnow ++ (wX0 G (ado 3) fimg0z ++ (wX0 G (ado 4) fimg1z))))) args s 0 0 A) (F0 m pc ls [.int r9]) := by
    intro r9 f9 fimg09 fimg19 H locs ls pc hK9 hdg hP hD hS
    cases hK9
    exact W.iret hx hb hr (fun t ht hW => ⟨⟨r, (), rfl, rfl, by rw [ht]; exact hP, hD⟩, hS.F ht⟩) hS.2.2 hdg hlocks
  generalize MQ below (Qi0 G A r (wX6 G ad ado fz ++ (wX0 G (ado 1) fnow ++ (wX0 G (ado 3) fimg0z ++ (wX0 G (ado 4) fimg1z))))) args s 0 0 A = Q at hRet ⊢
  have lk23 := hts (.fieldLink RX6 23 "FeatherShares" "keptImages" "I") (by decide +kernel)
  have inX6 : ∀ w ∈ u_ws RX6 TX6 11, w ∈ wsX6_keep := by decide +kernel
  have lk19 := hts (.fieldLink RX6 19 "FeatherShares" "images" "[LFeatherShares$Flock;") (by decide +kernel)
  have lk12 := hts (.fieldLink RX6 12 "FeatherShares" "now" "LFeatherShares$Flock;") (by decide +kernel)
  have hl : lv_has ls 3 [(0, .ref (ad 0)), (1, .int x1)] := hl
  have hK0 : (r, fz, fimg0z, fimg1z) = (r, fz, fimg0z, fimg1z) := rfl
  obtain ⟨res, hres, hK⟩ : ∃ res, p_X6_keep f fnow fimg0 fimg1 x1 = some res ∧ res = (r, fz, fimg0z, fimg1z) := ⟨_, hf, rfl⟩
  clear hf
  have hf := hres
  clear hres
  unfold p_X6_keep at hf
  refine lv_iload_n hx hb dX6_keep_0 rfl (lv_at hl 1 rfl) ?_
  refine lv_iconst (v := (nI 0)) hx hb dX6_keep_1 (ic_0) ?_
  refine lv_iconst (v := (nI 1)) hx hb dX6_keep_2 (ic_1) ?_
  obtain ⟨r3, hc3, hf⟩ := bd_e hf
  refine cl_z_ro (Wd := (wX6 G ad ado f ++ (wX0 G (ado 1) fnow ++ (wX0 G (ado 3) fimg0 ++ (wX0 G (ado 4) fimg1))))) (Wc := ([] : va_W)) [] rfl (va_runS (As := [.int x1, .int (nI 0), .int (nI 1)]) (rest := []) hC (c_X6_isWithin l G x1 (nI 0) (nI 1) r3 hc3 _) (va_cwS 3 hts gX6_keep_X6_isWithin rfl rfl rfl (by decide +kernel) ⟨Nat.le_of_ble_eq_true rfl, Nat.le_of_ble_eq_true rfl⟩) ⟨Pc0_blind, fun U hU hW => Pc0_at (Wd := ([] : va_W)) hE (hP.subm [] rfl) (hD.sub [] (by decide) rfl) hU hW⟩ rfl rfl hl.1 rfl (lv_room (Nat.le_of_ble_eq_true rfl)) dX6_keep_3 ⟨Nat.zero_le _, Nat.zero_le _⟩) hS hA hP hD (fun H locs hn3 hP hD hS => ?_)
  refine lv_if_ne (tgt := 11) hx hb dX6_keep_6 (by decide) (fun hc => ?_) (fun hc => ?_)
  · have hf := if_f hf hc
    refine lv_aload_n hx hb dX6_keep_11 rfl (lv_at hl 0 rfl) ?_
    refine va_get (C := RX6) (T := TX6) (N := 11) (ci := 6) (v := .int (f 0 0)) hx hb hts inX6 hown hT hP 0 rfl rfl 3 (Nat.le_of_ble_eq_true rfl) lk23 (fun _ h => h) rfl dX6_keep_12 ?_
    refine lv_iload_n hx hb dX6_keep_15 rfl (lv_at hl 1 rfl) ?_
    refine lv_ishr hx hb dX6_keep_16 ?_
    refine lv_iconst (v := (nI 1)) hx hb dX6_keep_17 (ic_1) ?_
    refine lv_iand hx hb dX6_keep_18 ?_
    refine lv_istore_n (lv' := [(2, .int (((f 0 0) >>> (x1 &&& 31)) &&& (nI 1))), (0, .ref (ad 0)), (1, .int x1)]) hx hb dX6_keep_19 rfl hl (by decide) rfl (fun ls hl => ?_)
    refine lv_aload_n hx hb dX6_keep_20 rfl (lv_at hl 1 rfl) ?_
    refine va_get (C := RX6) (T := TX6) (N := 11) (ci := 6) (v := .ref (ad 1)) hx hb hts inX6 hown hT hP 0 rfl rfl 2 (Nat.le_of_ble_eq_true rfl) lk19 (fun _ h => h) rfl dX6_keep_21 ?_
    refine lv_iload_n hx hb dX6_keep_24 rfl (lv_at hl 2 rfl) ?_
    by_cases hc25 : x1 = nI 0
    · rw [if_pos hc25] at hf
      refine va_aldq hx hb hT hP 1 2 rfl rfl (by rw [hc25]; exact vp_in_nI (by decide) (by decide)) dX6_keep_25 ?_
      refine W.eq (g2 := F0 m 26 ls [.int (((f 0 0) >>> (x1 &&& 31)) &&& (nI 1))]) (by rw [hc25]; rfl) ?_
      refine lv_aload_n hx hb dX6_keep_26 rfl (lv_at hl 1 rfl) ?_
      refine va_get (C := RX6) (T := TX6) (N := 11) (ci := 6) (v := .ref ((ado 1) 0)) hx hb hts inX6 hown hT hP 0 rfl rfl 0 (Nat.le_of_ble_eq_true rfl) lk12 (fun _ h => h) rfl dX6_keep_27 ?_
      obtain ⟨fimg0_30, hc30, hf⟩ := bd_e hf
      refine cl_v_up (Wd := (wX6 G ad ado f ++ (wX0 G (ado 1) fnow ++ (wX0 G (ado 3) fimg0 ++ (wX0 G (ado 4) fimg1))))) (Wc := (wX0 G (ado 3) fimg0 ++ (wX0 G (ado 1) fnow))) (W' := (wX0 G (ado 3) fimg0_30 ++ (wX0 G (ado 1) fnow))) (W2 := (wX6 G ad ado f ++ (wX0 G (ado 1) fnow ++ (wX0 G (ado 3) fimg0_30 ++ (wX0 G (ado 4) fimg1))))) [15, 16, 17, 18, 19, 20, 21, 22, 23, 24, 25, 4, 5, 6, 7, 8, 9, 10, 11, 12, 13, 14] [0, 1, 2, 3, 26, 27, 28, 29, 30, 31, 32, 33, 34, 35, 36] rfl rfl rfl rfl rfl (va_runVN (As := [.ref ((ado 1) 0)]) (rest := []) hC (c_X0_copyFrom l G (ado 3) (ado 1) fimg0 fnow fimg0_30 hc30 _) ⟨va_cnB 1 hts gX6_keep_X0_copyFrom_n93 rfl rfl rfl (hE.2.2 (RX6, 93, yX0_copyFrom, "FeatherShares") (List.mem_of_getElem? (i := 8) rfl)) (hts (.initialized RX0) (by decide +kernel)) (by decide +kernel) ⟨Nat.le_of_ble_eq_true rfl, Nat.le_of_ble_eq_true rfl⟩, hts (.instanceMethod yX0_copyFrom) (by decide +kernel), hts (.selects RX0 yX0_copyFrom yX0_copyFrom) (by decide +kernel)⟩ ⟨Pc0_blind, va_recv hT hP (q0 := 15) (ci := 0) rfl rfl, fun U hU hW => Pc0_at (Wd := (wX0 G (ado 3) fimg0 ++ (wX0 G (ado 1) fnow))) hE (hP.subm [15, 16, 17, 18, 19, 20, 21, 22, 23, 24, 25, 4, 5, 6, 7, 8, 9, 10, 11, 12, 13, 14] rfl) (hD.sub [15, 16, 17, 18, 19, 20, 21, 22, 23, 24, 25, 4, 5, 6, 7, 8, 9, 10, 11, 12, 13, 14] (by decide) rfl) hU hW⟩ rfl rfl hl.1 rfl (lv_room (Nat.le_of_ble_eq_true rfl)) dX6_keep_30 ⟨Nat.zero_le _, Nat.zero_le _⟩) hS hA hP hD (fun H locs hP hD hS => ?_)
      refine lv_aload_n hx hb dX6_keep_33 rfl (lv_at hl 1 rfl) ?_
      refine lv_dup hx hb dX6_keep_34 rfl ?_
      refine va_get (C := RX6) (T := TX6) (N := 11) (ci := 6) (v := .int (f 0 0)) hx hb hts inX6 hown hT hP 0 rfl rfl 3 (Nat.le_of_ble_eq_true rfl) lk23 (fun _ h => h) rfl dX6_keep_35 ?_
      refine lv_iconst (v := (nI 1)) hx hb dX6_keep_38 (ic_1) ?_
      refine lv_iload_n hx hb dX6_keep_39 rfl (lv_at hl 2 rfl) ?_
      refine lv_ishl hx hb dX6_keep_40 ?_
      refine lv_ior hx hb dX6_keep_41 ?_
      refine va_put (C := RX6) (T := TX6) (N := 11) (ci := 6) (ty := .int) (v := .int ((f 0 0) ||| ((nI 1) <<< (x1 &&& 31)))) hx hb hts inX6 tyX6 tyX6_ok nmX6 hown hT hP hD hS 0 rfl rfl 3 (Nat.le_of_ble_eq_true rfl) lk23 (fun _ h => h) rfl (by decide +kernel) rfl rfl (Nat.le_of_ble_eq_true rfl) dX6_keep_42 (fun H locs hP hD hS => ?_)
      have hP : va_P G.1 vwCl (wX6 G ad ado (mset 0 0 ((f 0 0) ||| ((nI 1) <<< (x1 &&& 31))) f) ++ (wX0 G (ado 1) fnow ++ (wX0 G (ado 3) fimg0_30 ++ (wX0 G (ado 4) fimg1)))) H := hP
      have hD : va_D A (wX6 G ad ado (mset 0 0 ((f 0 0) ||| ((nI 1) <<< (x1 &&& 31))) f) ++ (wX0 G (ado 1) fnow ++ (wX0 G (ado 3) fimg0_30 ++ (wX0 G (ado 4) fimg1)))) := hD
      refine lv_iload_n hx hb dX6_keep_45 rfl (lv_at hl 0 rfl) ?_
      have hK9 := K0_of hf hK
      exact hRet (((f 0 0) >>> (x1 &&& 31)) &&& (nI 1)) (mset 0 0 ((f 0 0) ||| ((nI 1) <<< (x1 &&& 31))) f) fimg0_30 fimg1 _ _ _ _ hK9 dX6_keep_46 hP hD hS
    rw [if_neg hc25] at hf
    by_cases hc25 : x1 = nI 1
    · rw [if_pos hc25] at hf
      refine va_aldq hx hb hT hP 1 2 rfl rfl (by rw [hc25]; exact vp_in_nI (by decide) (by decide)) dX6_keep_25 ?_
      refine W.eq (g2 := F0 m 26 ls [.int (((f 0 0) >>> (x1 &&& 31)) &&& (nI 1))]) (by rw [hc25]; rfl) ?_
      refine lv_aload_n hx hb dX6_keep_26 rfl (lv_at hl 1 rfl) ?_
      refine va_get (C := RX6) (T := TX6) (N := 11) (ci := 6) (v := .ref ((ado 1) 0)) hx hb hts inX6 hown hT hP 0 rfl rfl 0 (Nat.le_of_ble_eq_true rfl) lk12 (fun _ h => h) rfl dX6_keep_27 ?_
      obtain ⟨fimg1_30, hc30, hf⟩ := bd_e hf
      refine cl_v_up (Wd := (wX6 G ad ado f ++ (wX0 G (ado 1) fnow ++ (wX0 G (ado 3) fimg0 ++ (wX0 G (ado 4) fimg1))))) (Wc := (wX0 G (ado 4) fimg1 ++ (wX0 G (ado 1) fnow))) (W' := (wX0 G (ado 4) fimg1_30 ++ (wX0 G (ado 1) fnow))) (W2 := (wX6 G ad ado f ++ (wX0 G (ado 1) fnow ++ (wX0 G (ado 3) fimg0 ++ (wX0 G (ado 4) fimg1_30))))) [26, 27, 28, 29, 30, 31, 32, 33, 34, 35, 36, 4, 5, 6, 7, 8, 9, 10, 11, 12, 13, 14] [0, 1, 2, 3, 15, 16, 17, 18, 19, 20, 21, 22, 23, 24, 25] rfl rfl rfl rfl rfl (va_runVN (As := [.ref ((ado 1) 0)]) (rest := []) hC (c_X0_copyFrom l G (ado 4) (ado 1) fimg1 fnow fimg1_30 hc30 _) ⟨va_cnB 1 hts gX6_keep_X0_copyFrom_n93 rfl rfl rfl (hE.2.2 (RX6, 93, yX0_copyFrom, "FeatherShares") (List.mem_of_getElem? (i := 8) rfl)) (hts (.initialized RX0) (by decide +kernel)) (by decide +kernel) ⟨Nat.le_of_ble_eq_true rfl, Nat.le_of_ble_eq_true rfl⟩, hts (.instanceMethod yX0_copyFrom) (by decide +kernel), hts (.selects RX0 yX0_copyFrom yX0_copyFrom) (by decide +kernel)⟩ ⟨Pc0_blind, va_recv hT hP (q0 := 26) (ci := 0) rfl rfl, fun U hU hW => Pc0_at (Wd := (wX0 G (ado 4) fimg1 ++ (wX0 G (ado 1) fnow))) hE (hP.subm [26, 27, 28, 29, 30, 31, 32, 33, 34, 35, 36, 4, 5, 6, 7, 8, 9, 10, 11, 12, 13, 14] rfl) (hD.sub [26, 27, 28, 29, 30, 31, 32, 33, 34, 35, 36, 4, 5, 6, 7, 8, 9, 10, 11, 12, 13, 14] (by decide) rfl) hU hW⟩ rfl rfl hl.1 rfl (lv_room (Nat.le_of_ble_eq_true rfl)) dX6_keep_30 ⟨Nat.zero_le _, Nat.zero_le _⟩) hS hA hP hD (fun H locs hP hD hS => ?_)
      refine lv_aload_n hx hb dX6_keep_33 rfl (lv_at hl 1 rfl) ?_
      refine lv_dup hx hb dX6_keep_34 rfl ?_
      refine va_get (C := RX6) (T := TX6) (N := 11) (ci := 6) (v := .int (f 0 0)) hx hb hts inX6 hown hT hP 0 rfl rfl 3 (Nat.le_of_ble_eq_true rfl) lk23 (fun _ h => h) rfl dX6_keep_35 ?_
      refine lv_iconst (v := (nI 1)) hx hb dX6_keep_38 (ic_1) ?_
      refine lv_iload_n hx hb dX6_keep_39 rfl (lv_at hl 2 rfl) ?_
      refine lv_ishl hx hb dX6_keep_40 ?_
      refine lv_ior hx hb dX6_keep_41 ?_
      refine va_put (C := RX6) (T := TX6) (N := 11) (ci := 6) (ty := .int) (v := .int ((f 0 0) ||| ((nI 1) <<< (x1 &&& 31)))) hx hb hts inX6 tyX6 tyX6_ok nmX6 hown hT hP hD hS 0 rfl rfl 3 (Nat.le_of_ble_eq_true rfl) lk23 (fun _ h => h) rfl (by decide +kernel) rfl rfl (Nat.le_of_ble_eq_true rfl) dX6_keep_42 (fun H locs hP hD hS => ?_)
      have hP : va_P G.1 vwCl (wX6 G ad ado (mset 0 0 ((f 0 0) ||| ((nI 1) <<< (x1 &&& 31))) f) ++ (wX0 G (ado 1) fnow ++ (wX0 G (ado 3) fimg0 ++ (wX0 G (ado 4) fimg1_30)))) H := hP
      have hD : va_D A (wX6 G ad ado (mset 0 0 ((f 0 0) ||| ((nI 1) <<< (x1 &&& 31))) f) ++ (wX0 G (ado 1) fnow ++ (wX0 G (ado 3) fimg0 ++ (wX0 G (ado 4) fimg1_30)))) := hD
      refine lv_iload_n hx hb dX6_keep_45 rfl (lv_at hl 0 rfl) ?_
      have hK9 := K0_of hf hK
      exact hRet (((f 0 0) >>> (x1 &&& 31)) &&& (nI 1)) (mset 0 0 ((f 0 0) ||| ((nI 1) <<< (x1 &&& 31))) f) fimg0 fimg1_30 _ _ _ _ hK9 dX6_keep_46 hP hD hS
    rw [if_neg hc25] at hf
    cases hf
  · have hf := if_t hf hc
    refine lv_iconst (v := (-1 : Int32)) hx hb dX6_keep_9 (ic_m1) ?_
    have hK9 := K0_of hf hK
    exact hRet (-1 : Int32) f fimg0 fimg1 _ _ _ _ hK9 dX6_keep_10 hP hD hS
noncomputable def p_X6_back (f : Mem) (fnow : Mem) (fimg0 : Mem) (fimg1 : Mem) (x1 : Int32) : Option (Int32 × Mem) :=
  Option.bind (p_X6_isWithin x1 (nI 0) (nI 1)) <| fun r3 =>
  if r3 = 0 then
    (some ((-1 : Int32), fnow))
  else
    (if (((f 0 0) >>> (x1 &&& 31)) &&& (nI 1)) = 0 then
       (some ((-2 : Int32), fnow))
     else
       (if x1 = nI 0 then
          (Option.bind (p_X0_copyFrom fnow fimg0) <| fun fnow_35 =>
          some ((fnow_35 0 1), fnow_35))
        else if x1 = nI 1 then
          (Option.bind (p_X0_copyFrom fnow fimg1) <| fun fnow_35 =>
          some ((fnow_35 0 1), fnow_35))
        else none))
set_option maxHeartbeats 4000000 in
set_option maxRecDepth 100000 in
theorem c_X6_back (l : Launch) (G : Gt) (ad : Nat → Nat) (ado : Nat → Nat → Nat) (f : Mem) (fnow : Mem) (fimg0 : Mem) (fimg1 : Mem) (x1 : Int32) (r : Int32) (fnowz : Mem) (hf : p_X6_back f fnow fimg0 fimg1 x1 = some (r, fnowz)) (sz : Nat) : Met l yX6_back wsX6_back ({ frames := 2, cells := 0, slots := 0, locals := 61 }) (Pc0 G sz [.ref (ad 0), .int x1] (wX6 G ad ado f ++ (wX0 G (ado 1) fnow ++ (wX0 G (ado 3) fimg0 ++ (wX0 G (ado 4) fimg1))))) (Qi0 G (va_A (wX6 G ad ado f ++ (wX0 G (ado 1) fnow ++ (wX0 G (ado 3) fimg0 ++ (wX0 G (ado 4) fimg1)))) sz) r (wX6 G ad ado f ++ (wX0 G (ado 1) fnowz ++ (wX0 G (ado 3) fimg0 ++ (wX0 G (ado 4) fimg1))))) 0 0 (va_A (wX6 G ad ado f ++ (wX0 G (ado 1) fnow ++ (wX0 G (ado 3) fimg0 ++ (wX0 G (ado 4) fimg1)))) sz) := by
  refine metP (Qf := fun A => Qi0 G A r (wX6 G ad ado f ++ (wX0 G (ado 1) fnowz ++ (wX0 G (ado 3) fimg0 ++ (wX0 G (ado 4) fimg1))))) cX6_back 2 (some .int) (by decide) rfl (Nat.le_of_ble_eq_true rfl) ?_
  intro p e s m below meth c A ls hC hr hlocks hin hE hA hsz hP hD hS hl
  generalize hargs : ([.ref (ad 0), .int x1] : List Value).toArray = args at hC ⊢
  obtain ⟨hx, hb, hml, hown, hts⟩ := id hC
  have hT : va_K G.1 vwCl (tyL G) s := hE.1
  have hRet : ∀ (r9 : Int32) (fnow9 : Mem) (H : Heap) (locs : List Loc) (ls : Array Slot) (pc : Nat) (hK9 : (r9, fnow9) = (r, fnowz)) (hdg : decode cX6_back pc = .ok (.ireturn, 1)), va_P G.1 vwCl (wX6 G ad ado f ++ (wX0 G (ado 1) fnow9 ++ (wX0 G (ado 3) fimg0 ++ (wX0 G (ado 4) fimg1)))) H → va_D A (wX6 G ad ado f ++ (wX0 G (ado 1) fnow9 ++ (wX0 G (ado 3) fimg0 ++ (wX0 G (ado 4) fimg1)))) → va_S A s.heap H locs → W p l e ({ frames := 2, cells := 0, slots := 0, locals := 61 }) s m args below meth c H locs 0 0 (MQ below (Qi0 G A r (wX6 G ad ado f ++ (wX0 G (ado 1) fnowz ++ (wX0 G (ado 3) fimg0 ++ (wX0 G (ado 4) fimg1))))) args s 0 0 A) (F0 m pc ls [.int r9]) := by
    intro r9 fnow9 H locs ls pc hK9 hdg hP hD hS
    cases hK9
    exact W.iret hx hb hr (fun t ht hW => ⟨⟨r, (), rfl, rfl, by rw [ht]; exact hP, hD⟩, hS.F ht⟩) hS.2.2 hdg hlocks
  generalize MQ below (Qi0 G A r (wX6 G ad ado f ++ (wX0 G (ado 1) fnowz ++ (wX0 G (ado 3) fimg0 ++ (wX0 G (ado 4) fimg1))))) args s 0 0 A = Q at hRet ⊢
  have lk23 := hts (.fieldLink RX6 23 "FeatherShares" "keptImages" "I") (by decide +kernel)
  have inX6 : ∀ w ∈ u_ws RX6 TX6 11, w ∈ wsX6_back := by decide +kernel
  have lk12 := hts (.fieldLink RX6 12 "FeatherShares" "now" "LFeatherShares$Flock;") (by decide +kernel)
  have lk19 := hts (.fieldLink RX6 19 "FeatherShares" "images" "[LFeatherShares$Flock;") (by decide +kernel)
  have lk106 := va_Nw.use (A := args) rfl (hE.2.1 (RX6, 106, "FeatherShares$Flock", "week", "I", "FeatherShares") (List.mem_of_getElem? (i := 7) rfl))
  have inX0 : ∀ w ∈ u_ws RX0 TX0 13, w ∈ wsX6_back := by decide +kernel
  have hl : lv_has ls 2 [(0, .ref (ad 0)), (1, .int x1)] := hl
  have hK0 : (r, fnowz) = (r, fnowz) := rfl
  obtain ⟨res, hres, hK⟩ : ∃ res, p_X6_back f fnow fimg0 fimg1 x1 = some res ∧ res = (r, fnowz) := ⟨_, hf, rfl⟩
  clear hf
  have hf := hres
  clear hres
  unfold p_X6_back at hf
  refine lv_iload_n hx hb dX6_back_0 rfl (lv_at hl 1 rfl) ?_
  refine lv_iconst (v := (nI 0)) hx hb dX6_back_1 (ic_0) ?_
  refine lv_iconst (v := (nI 1)) hx hb dX6_back_2 (ic_1) ?_
  obtain ⟨r3, hc3, hf⟩ := bd_e hf
  refine cl_z_ro (Wd := (wX6 G ad ado f ++ (wX0 G (ado 1) fnow ++ (wX0 G (ado 3) fimg0 ++ (wX0 G (ado 4) fimg1))))) (Wc := ([] : va_W)) [] rfl (va_runS (As := [.int x1, .int (nI 0), .int (nI 1)]) (rest := []) hC (c_X6_isWithin l G x1 (nI 0) (nI 1) r3 hc3 _) (va_cwS 3 hts gX6_back_X6_isWithin rfl rfl rfl (by decide +kernel) ⟨Nat.le_of_ble_eq_true rfl, Nat.le_of_ble_eq_true rfl⟩) ⟨Pc0_blind, fun U hU hW => Pc0_at (Wd := ([] : va_W)) hE (hP.subm [] rfl) (hD.sub [] (by decide) rfl) hU hW⟩ rfl rfl hl.1 rfl (lv_room (Nat.le_of_ble_eq_true rfl)) dX6_back_3 ⟨Nat.zero_le _, Nat.zero_le _⟩) hS hA hP hD (fun H locs hn3 hP hD hS => ?_)
  refine lv_if_ne (tgt := 11) hx hb dX6_back_6 (by decide) (fun hc => ?_) (fun hc => ?_)
  · have hf := if_f hf hc
    refine lv_aload_n hx hb dX6_back_11 rfl (lv_at hl 0 rfl) ?_
    refine va_get (C := RX6) (T := TX6) (N := 11) (ci := 6) (v := .int (f 0 0)) hx hb hts inX6 hown hT hP 0 rfl rfl 3 (Nat.le_of_ble_eq_true rfl) lk23 (fun _ h => h) rfl dX6_back_12 ?_
    refine lv_iload_n hx hb dX6_back_15 rfl (lv_at hl 1 rfl) ?_
    refine lv_ishr hx hb dX6_back_16 ?_
    refine lv_iconst (v := (nI 1)) hx hb dX6_back_17 (ic_1) ?_
    refine lv_iand hx hb dX6_back_18 ?_
    refine lv_if_ne (tgt := 25) hx hb dX6_back_19 (by decide) (fun hc => ?_) (fun hc => ?_)
    · have hf := if_f hf hc
      refine lv_aload_n hx hb dX6_back_25 rfl (lv_at hl 0 rfl) ?_
      refine va_get (C := RX6) (T := TX6) (N := 11) (ci := 6) (v := .ref ((ado 1) 0)) hx hb hts inX6 hown hT hP 0 rfl rfl 0 (Nat.le_of_ble_eq_true rfl) lk12 (fun _ h => h) rfl dX6_back_26 ?_
      refine lv_aload_n hx hb dX6_back_29 rfl (lv_at hl 0 rfl) ?_
      refine va_get (C := RX6) (T := TX6) (N := 11) (ci := 6) (v := .ref (ad 1)) hx hb hts inX6 hown hT hP 0 rfl rfl 2 (Nat.le_of_ble_eq_true rfl) lk19 (fun _ h => h) rfl dX6_back_30 ?_
      refine lv_iload_n hx hb dX6_back_33 rfl (lv_at hl 1 rfl) ?_
      by_cases hc34 : x1 = nI 0
      · rw [if_pos hc34] at hf
        refine va_aldq hx hb hT hP 1 2 rfl rfl (by rw [hc34]; exact vp_in_nI (by decide) (by decide)) dX6_back_34 ?_
        refine W.eq (g2 := F0 m 35 ls [.int (fnow_35 0 1)]) (by rw [hc34]; rfl) ?_
        obtain ⟨fnow_35, hc35, hf⟩ := bd_e hf
        refine cl_v_up (Wd := (wX6 G ad ado f ++ (wX0 G (ado 1) fnow ++ (wX0 G (ado 3) fimg0 ++ (wX0 G (ado 4) fimg1))))) (Wc := (wX0 G (ado 1) fnow ++ (wX0 G (ado 3) fimg0))) (W' := (wX0 G (ado 1) fnow_35 ++ (wX0 G (ado 3) fimg0))) (W2 := (wX6 G ad ado f ++ (wX0 G (ado 1) fnow_35 ++ (wX0 G (ado 3) fimg0 ++ (wX0 G (ado 4) fimg1))))) [4, 5, 6, 7, 8, 9, 10, 11, 12, 13, 14, 15, 16, 17, 18, 19, 20, 21, 22, 23, 24, 25] [0, 1, 2, 3, 26, 27, 28, 29, 30, 31, 32, 33, 34, 35, 36] rfl rfl rfl rfl rfl (va_runVN (As := [.ref ((ado 3) 0)]) (rest := []) hC (c_X0_copyFrom l G (ado 1) (ado 3) fnow fimg0 fnow_35 hc35 _) ⟨va_cnB 1 hts gX6_back_X0_copyFrom_n93 rfl rfl rfl (hE.2.2 (RX6, 93, yX0_copyFrom, "FeatherShares") (List.mem_of_getElem? (i := 8) rfl)) (hts (.initialized RX0) (by decide +kernel)) (by decide +kernel) ⟨Nat.le_of_ble_eq_true rfl, Nat.le_of_ble_eq_true rfl⟩, hts (.instanceMethod yX0_copyFrom) (by decide +kernel), hts (.selects RX0 yX0_copyFrom yX0_copyFrom) (by decide +kernel)⟩ ⟨Pc0_blind, va_recv hT hP (q0 := 4) (ci := 0) rfl rfl, fun U hU hW => Pc0_at (Wd := (wX0 G (ado 1) fnow ++ (wX0 G (ado 3) fimg0))) hE (hP.subm [4, 5, 6, 7, 8, 9, 10, 11, 12, 13, 14, 15, 16, 17, 18, 19, 20, 21, 22, 23, 24, 25] rfl) (hD.sub [4, 5, 6, 7, 8, 9, 10, 11, 12, 13, 14, 15, 16, 17, 18, 19, 20, 21, 22, 23, 24, 25] (by decide) rfl) hU hW⟩ rfl rfl hl.1 rfl (lv_room (Nat.le_of_ble_eq_true rfl)) dX6_back_35 ⟨Nat.zero_le _, Nat.zero_le _⟩) hS hA hP hD (fun H locs hP hD hS => ?_)
        refine lv_aload_n hx hb dX6_back_38 rfl (lv_at hl 0 rfl) ?_
        refine va_get (C := RX6) (T := TX6) (N := 11) (ci := 6) (v := .ref ((ado 1) 0)) hx hb hts inX6 hown hT hP 0 rfl rfl 0 (Nat.le_of_ble_eq_true rfl) lk12 (fun _ h => h) rfl dX6_back_39 ?_
        refine va_getN (C := RX0) (T := TX0) (N := 13) (ci := 0) (v := .int (fnow_35 0 1)) hx hb hts inX0 hown hT hP 4 rfl rfl 1 (Nat.le_of_ble_eq_true rfl) lk106 (fun _ h => h) rfl dX6_back_42 ?_
        have hK9 := K0_of hf hK
        exact hRet (fnow_35 0 1) fnow_35 _ _ _ _ hK9 dX6_back_45 hP hD hS
      rw [if_neg hc34] at hf
      by_cases hc34 : x1 = nI 1
      · rw [if_pos hc34] at hf
        refine va_aldq hx hb hT hP 1 2 rfl rfl (by rw [hc34]; exact vp_in_nI (by decide) (by decide)) dX6_back_34 ?_
        refine W.eq (g2 := F0 m 35 ls [.int (fnow_35 0 1)]) (by rw [hc34]; rfl) ?_
        obtain ⟨fnow_35, hc35, hf⟩ := bd_e hf
        refine cl_v_up (Wd := (wX6 G ad ado f ++ (wX0 G (ado 1) fnow ++ (wX0 G (ado 3) fimg0 ++ (wX0 G (ado 4) fimg1))))) (Wc := (wX0 G (ado 1) fnow ++ (wX0 G (ado 4) fimg1))) (W' := (wX0 G (ado 1) fnow_35 ++ (wX0 G (ado 4) fimg1))) (W2 := (wX6 G ad ado f ++ (wX0 G (ado 1) fnow_35 ++ (wX0 G (ado 3) fimg0 ++ (wX0 G (ado 4) fimg1))))) [4, 5, 6, 7, 8, 9, 10, 11, 12, 13, 14, 26, 27, 28, 29, 30, 31, 32, 33, 34, 35, 36] [0, 1, 2, 3, 15, 16, 17, 18, 19, 20, 21, 22, 23, 24, 25] rfl rfl rfl rfl rfl (va_runVN (As := [.ref ((ado 4) 0)]) (rest := []) hC (c_X0_copyFrom l G (ado 1) (ado 4) fnow fimg1 fnow_35 hc35 _) ⟨va_cnB 1 hts gX6_back_X0_copyFrom_n93 rfl rfl rfl (hE.2.2 (RX6, 93, yX0_copyFrom, "FeatherShares") (List.mem_of_getElem? (i := 8) rfl)) (hts (.initialized RX0) (by decide +kernel)) (by decide +kernel) ⟨Nat.le_of_ble_eq_true rfl, Nat.le_of_ble_eq_true rfl⟩, hts (.instanceMethod yX0_copyFrom) (by decide +kernel), hts (.selects RX0 yX0_copyFrom yX0_copyFrom) (by decide +kernel)⟩ ⟨Pc0_blind, va_recv hT hP (q0 := 4) (ci := 0) rfl rfl, fun U hU hW => Pc0_at (Wd := (wX0 G (ado 1) fnow ++ (wX0 G (ado 4) fimg1))) hE (hP.subm [4, 5, 6, 7, 8, 9, 10, 11, 12, 13, 14, 26, 27, 28, 29, 30, 31, 32, 33, 34, 35, 36] rfl) (hD.sub [4, 5, 6, 7, 8, 9, 10, 11, 12, 13, 14, 26, 27, 28, 29, 30, 31, 32, 33, 34, 35, 36] (by decide) rfl) hU hW⟩ rfl rfl hl.1 rfl (lv_room (Nat.le_of_ble_eq_true rfl)) dX6_back_35 ⟨Nat.zero_le _, Nat.zero_le _⟩) hS hA hP hD (fun H locs hP hD hS => ?_)
        refine lv_aload_n hx hb dX6_back_38 rfl (lv_at hl 0 rfl) ?_
        refine va_get (C := RX6) (T := TX6) (N := 11) (ci := 6) (v := .ref ((ado 1) 0)) hx hb hts inX6 hown hT hP 0 rfl rfl 0 (Nat.le_of_ble_eq_true rfl) lk12 (fun _ h => h) rfl dX6_back_39 ?_
        refine va_getN (C := RX0) (T := TX0) (N := 13) (ci := 0) (v := .int (fnow_35 0 1)) hx hb hts inX0 hown hT hP 4 rfl rfl 1 (Nat.le_of_ble_eq_true rfl) lk106 (fun _ h => h) rfl dX6_back_42 ?_
        have hK9 := K0_of hf hK
        exact hRet (fnow_35 0 1) fnow_35 _ _ _ _ hK9 dX6_back_45 hP hD hS
      rw [if_neg hc34] at hf
      cases hf
    · have hf := if_t hf hc
      refine lv_bipush (v := (-2 : Int32)) hx hb dX6_back_22 (bi_m2) ?_
      have hK9 := K0_of hf hK
      exact hRet (-2 : Int32) fnow _ _ _ _ hK9 dX6_back_24 hP hD hS
  · have hf := if_t hf hc
    refine lv_iconst (v := (-1 : Int32)) hx hb dX6_back_9 (ic_m1) ?_
    have hK9 := K0_of hf hK
    exact hRet (-1 : Int32) fnow _ _ _ _ hK9 dX6_back_10 hP hD hS
noncomputable def p_X6_sheet (f : Mem) (fsheet0 : Mem) (fsheet1 : Mem) (fsheet2 : Mem) (fsheet3 : Mem) (x1 : Int32) (x2 : Int32) (x3 : Int32) : Option (Int32 × Mem × Mem × Mem × Mem) :=
  Option.bind (p_X6_isSheet x1) <| fun r1 =>
  if r1 = 0 then
    (some ((-1 : Int32), fsheet0, fsheet1, fsheet2, fsheet3))
  else
    (Option.bind (p_X6_isLane x2) <| fun r8 =>
     if r8 = 0 then
       (some ((-1 : Int32), fsheet0, fsheet1, fsheet2, fsheet3))
     else
       (if x3 ≤ (nI 40) then
          (if 0 ≤ x3 then
             (if x1 = nI 0 then
                (Option.bind (p_X2_renew fsheet0 x2 x3) <| fun fsheet0_37 =>
                some ((nI 1), fsheet0_37, fsheet1, fsheet2, fsheet3))
              else if x1 = nI 1 then
                (Option.bind (p_X2_renew fsheet1 x2 x3) <| fun fsheet1_37 =>
                some ((nI 1), fsheet0, fsheet1_37, fsheet2, fsheet3))
              else if x1 = nI 2 then
                (Option.bind (p_X2_renew fsheet2 x2 x3) <| fun fsheet2_37 =>
                some ((nI 1), fsheet0, fsheet1, fsheet2_37, fsheet3))
              else if x1 = nI 3 then
                (Option.bind (p_X2_renew fsheet3 x2 x3) <| fun fsheet3_37 =>
                some ((nI 1), fsheet0, fsheet1, fsheet2, fsheet3_37))
              else none)
           else
             (some ((-14 : Int32), fsheet0, fsheet1, fsheet2, fsheet3)))
        else
          (some ((-1 : Int32), fsheet0, fsheet1, fsheet2, fsheet3))))
set_option maxHeartbeats 4000000 in
set_option maxRecDepth 100000 in
theorem c_X6_sheet (l : Launch) (G : Gt) (ad : Nat → Nat) (ado : Nat → Nat → Nat) (f : Mem) (fsheet0 : Mem) (fsheet1 : Mem) (fsheet2 : Mem) (fsheet3 : Mem) (x1 : Int32) (x2 : Int32) (x3 : Int32) (r : Int32) (fsheet0z : Mem) (fsheet1z : Mem) (fsheet2z : Mem) (fsheet3z : Mem) (hf : p_X6_sheet f fsheet0 fsheet1 fsheet2 fsheet3 x1 x2 x3 = some (r, fsheet0z, fsheet1z, fsheet2z, fsheet3z)) (sz : Nat) : Met l yX6_sheet wsX6_sheet ({ frames := 3, cells := 0, slots := 0, locals := 57 }) (Pc0 G sz [.ref (ad 0), .int x1, .int x2, .int x3] (wX6 G ad ado f ++ (wX2 G (ado 11) fsheet0 ++ (wX2 G (ado 12) fsheet1 ++ (wX2 G (ado 13) fsheet2 ++ (wX2 G (ado 14) fsheet3)))))) (Qi0 G (va_A (wX6 G ad ado f ++ (wX2 G (ado 11) fsheet0 ++ (wX2 G (ado 12) fsheet1 ++ (wX2 G (ado 13) fsheet2 ++ (wX2 G (ado 14) fsheet3))))) sz) r (wX6 G ad ado f ++ (wX2 G (ado 11) fsheet0z ++ (wX2 G (ado 12) fsheet1z ++ (wX2 G (ado 13) fsheet2z ++ (wX2 G (ado 14) fsheet3z)))))) 0 0 (va_A (wX6 G ad ado f ++ (wX2 G (ado 11) fsheet0 ++ (wX2 G (ado 12) fsheet1 ++ (wX2 G (ado 13) fsheet2 ++ (wX2 G (ado 14) fsheet3))))) sz) := by
  refine metP (Qf := fun A => Qi0 G A r (wX6 G ad ado f ++ (wX2 G (ado 11) fsheet0z ++ (wX2 G (ado 12) fsheet1z ++ (wX2 G (ado 13) fsheet2z ++ (wX2 G (ado 14) fsheet3z)))))) cX6_sheet 4 (some .int) (by decide) rfl (Nat.le_of_ble_eq_true rfl) ?_
  intro p e s m below meth c A ls hC hr hlocks hin hE hA hsz hP hD hS hl
  generalize hargs : ([.ref (ad 0), .int x1, .int x2, .int x3] : List Value).toArray = args at hC ⊢
  obtain ⟨hx, hb, hml, hown, hts⟩ := id hC
  have hT : va_K G.1 vwCl (tyL G) s := hE.1
  have hRet : ∀ (r9 : Int32) (fsheet09 : Mem) (fsheet19 : Mem) (fsheet29 : Mem) (fsheet39 : Mem) (H : Heap) (locs : List Loc) (ls : Array Slot) (pc : Nat) (hK9 : (r9, fsheet09, fsheet19, fsheet29, fsheet39) = (r, fsheet0z, fsheet1z, fsheet2z, fsheet3z)) (hdg : decode cX6_sheet pc = .ok (.ireturn, 1)), va_P G.1 vwCl (wX6 G ad ado f ++ (wX2 G (ado 11) fsheet09 ++ (wX2 G (ado 12) fsheet19 ++ (wX2 G (ado 13) fsheet29 ++ (wX2 G (ado 14) fsheet39))))) H → va_D A (wX6 G ad ado f ++ (wX2 G (ado 11) fsheet09 ++ (wX2 G (ado 12) fsheet19 ++ (wX2 G (ado 13) fsheet29 ++ (wX2 G (ado 14) fsheet39))))) → va_S A s.heap H locs → W p l e ({ frames := 3, cells := 0, slots := 0, locals := 57 }) s m args below meth c H locs 0 0 (MQ below (Qi0 G A r (wX6 G ad ado f ++ (wX2 G (ado 11) fsheet0z ++ (wX2 G (ado 12) fsheet1z ++ (wX2 G (ado 13) fsheet2z ++ (wX2 G (ado 14) fsheet3z)))))) args s 0 0 A) (F0 m pc ls [.int r9]) := by
    intro r9 fsheet09 fsheet19 fsheet29 fsheet39 H locs ls pc hK9 hdg hP hD hS
    cases hK9
    exact W.iret hx hb hr (fun t ht hW => ⟨⟨r, (), rfl, rfl, by rw [ht]; exact hP, hD⟩, hS.F ht⟩) hS.2.2 hdg hlocks
  generalize MQ below (Qi0 G A r (wX6 G ad ado f ++ (wX2 G (ado 11) fsheet0z ++ (wX2 G (ado 12) fsheet1z ++ (wX2 G (ado 13) fsheet2z ++ (wX2 G (ado 14) fsheet3z)))))) args s 0 0 A = Q at hRet ⊢
  have lk61 := hts (.fieldLink RX6 61 "FeatherShares" "sheets" "[LFeatherShares$Sheet;") (by decide +kernel)
  have inX6 : ∀ w ∈ u_ws RX6 TX6 11, w ∈ wsX6_sheet := by decide +kernel
  have hl : lv_has ls 4 [(0, .ref (ad 0)), (1, .int x1), (2, .int x2), (3, .int x3)] := hl
  have hK0 : (r, fsheet0z, fsheet1z, fsheet2z, fsheet3z) = (r, fsheet0z, fsheet1z, fsheet2z, fsheet3z) := rfl
  obtain ⟨res, hres, hK⟩ : ∃ res, p_X6_sheet f fsheet0 fsheet1 fsheet2 fsheet3 x1 x2 x3 = some res ∧ res = (r, fsheet0z, fsheet1z, fsheet2z, fsheet3z) := ⟨_, hf, rfl⟩
  clear hf
  have hf := hres
  clear hres
  unfold p_X6_sheet at hf
  refine lv_iload_n hx hb dX6_sheet_0 rfl (lv_at hl 1 rfl) ?_
  obtain ⟨r1, hc1, hf⟩ := bd_e hf
  refine cl_z_ro (Wd := (wX6 G ad ado f ++ (wX2 G (ado 11) fsheet0 ++ (wX2 G (ado 12) fsheet1 ++ (wX2 G (ado 13) fsheet2 ++ (wX2 G (ado 14) fsheet3)))))) (Wc := ([] : va_W)) [] rfl (va_runS (As := [.int x1]) (rest := []) hC (c_X6_isSheet l G x1 r1 hc1 _) (va_cwS 1 hts gX6_sheet_X6_isSheet rfl rfl rfl (by decide +kernel) ⟨Nat.le_of_ble_eq_true rfl, Nat.le_of_ble_eq_true rfl⟩) ⟨Pc0_blind, fun U hU hW => Pc0_at (Wd := ([] : va_W)) hE (hP.subm [] rfl) (hD.sub [] (by decide) rfl) hU hW⟩ rfl rfl hl.1 rfl (lv_room (Nat.le_of_ble_eq_true rfl)) dX6_sheet_1 ⟨Nat.zero_le _, Nat.zero_le _⟩) hS hA hP hD (fun H locs hn1 hP hD hS => ?_)
  refine lv_if_eq (tgt := 20) hx hb dX6_sheet_4 (by decide) (fun hc => ?_) (fun hc => ?_)
  · have hf := if_t hf hc
    refine lv_iconst (v := (-1 : Int32)) hx hb dX6_sheet_20 (ic_m1) ?_
    have hK9 := K0_of hf hK
    exact hRet (-1 : Int32) fsheet0 fsheet1 fsheet2 fsheet3 _ _ _ _ hK9 dX6_sheet_21 hP hD hS
  · have hf := if_f hf hc
    refine lv_iload_n hx hb dX6_sheet_7 rfl (lv_at hl 2 rfl) ?_
    obtain ⟨r8, hc8, hf⟩ := bd_e hf
    refine cl_z_ro (Wd := (wX6 G ad ado f ++ (wX2 G (ado 11) fsheet0 ++ (wX2 G (ado 12) fsheet1 ++ (wX2 G (ado 13) fsheet2 ++ (wX2 G (ado 14) fsheet3)))))) (Wc := ([] : va_W)) [] rfl (va_runS (As := [.int x2]) (rest := []) hC (c_X6_isLane l G x2 r8 hc8 _) (va_cwS 1 hts gX6_sheet_X6_isLane rfl rfl rfl (by decide +kernel) ⟨Nat.le_of_ble_eq_true rfl, Nat.le_of_ble_eq_true rfl⟩) ⟨Pc0_blind, fun U hU hW => Pc0_at (Wd := ([] : va_W)) hE (hP.subm [] rfl) (hD.sub [] (by decide) rfl) hU hW⟩ rfl rfl hl.1 rfl (lv_room (Nat.le_of_ble_eq_true rfl)) dX6_sheet_8 ⟨Nat.zero_le _, Nat.zero_le _⟩) hS hA hP hD (fun H locs hn8 hP hD hS => ?_)
    refine lv_if_eq (tgt := 20) hx hb dX6_sheet_11 (by decide) (fun hc => ?_) (fun hc => ?_)
    · have hf := if_t hf hc
      refine lv_iconst (v := (-1 : Int32)) hx hb dX6_sheet_20 (ic_m1) ?_
      have hK9 := K0_of hf hK
      exact hRet (-1 : Int32) fsheet0 fsheet1 fsheet2 fsheet3 _ _ _ _ hK9 dX6_sheet_21 hP hD hS
    · have hf := if_f hf hc
      refine lv_iload_n hx hb dX6_sheet_14 rfl (lv_at hl 3 rfl) ?_
      refine lv_bipush (v := (nI 40)) hx hb dX6_sheet_15 (bi_40) ?_
      refine lv_icmp_le (tgt := 22) hx hb dX6_sheet_17 (by decide) (fun hc => ?_) (fun hc => ?_)
      · have hf := if_t hf hc
        refine lv_iload_n hx hb dX6_sheet_22 rfl (lv_at hl 3 rfl) ?_
        refine lv_if_ge (tgt := 29) hx hb dX6_sheet_23 (by decide) (fun hc => ?_) (fun hc => ?_)
        · have hf := if_t hf hc
          refine lv_aload_n hx hb dX6_sheet_29 rfl (lv_at hl 0 rfl) ?_
          refine va_get (C := RX6) (T := TX6) (N := 11) (ci := 6) (v := .ref (ad 3)) hx hb hts inX6 hown hT hP 0 rfl rfl 9 (Nat.le_of_ble_eq_true rfl) lk61 (fun _ h => h) rfl dX6_sheet_30 ?_
          refine lv_iload_n hx hb dX6_sheet_33 rfl (lv_at hl 1 rfl) ?_
          by_cases hc34 : x1 = nI 0
          · rw [if_pos hc34] at hf
            refine va_aldq hx hb hT hP 3 3 rfl rfl (by rw [hc34]; exact vp_in_nI (by decide) (by decide)) dX6_sheet_34 ?_
            refine W.eq (g2 := F0 m 35 ls [.int (nI 1)]) (by rw [hc34]; rfl) ?_
            refine lv_iload_n hx hb dX6_sheet_35 rfl (lv_at hl 2 rfl) ?_
            refine lv_iload_n hx hb dX6_sheet_36 rfl (lv_at hl 3 rfl) ?_
            obtain ⟨fsheet0_37, hc37, hf⟩ := bd_e hf
            refine cl_v_up (Wd := (wX6 G ad ado f ++ (wX2 G (ado 11) fsheet0 ++ (wX2 G (ado 12) fsheet1 ++ (wX2 G (ado 13) fsheet2 ++ (wX2 G (ado 14) fsheet3)))))) (Wc := (wX2 G (ado 11) fsheet0)) (W' := (wX2 G (ado 11) fsheet0_37)) (W2 := (wX6 G ad ado f ++ (wX2 G (ado 11) fsheet0_37 ++ (wX2 G (ado 12) fsheet1 ++ (wX2 G (ado 13) fsheet2 ++ (wX2 G (ado 14) fsheet3)))))) [4, 5] [0, 1, 2, 3, 6, 7, 8, 9, 10, 11] rfl rfl rfl rfl rfl (va_runVN (As := [.int x2, .int x3]) (rest := []) hC (c_X2_renew l G (ado 11) fsheet0 x2 x3 fsheet0_37 hc37 _) ⟨va_cnB 2 hts gX6_sheet_X2_renew_n296 rfl rfl rfl (hE.2.2 (RX6, 296, yX2_renew, "FeatherShares") (List.mem_of_getElem? (i := 33) rfl)) (hts (.initialized RX2) (by decide +kernel)) (by decide +kernel) ⟨Nat.le_of_ble_eq_true rfl, Nat.le_of_ble_eq_true rfl⟩, hts (.instanceMethod yX2_renew) (by decide +kernel), hts (.selects RX2 yX2_renew yX2_renew) (by decide +kernel)⟩ ⟨Pc0_blind, va_recv hT hP (q0 := 4) (ci := 2) rfl rfl, fun U hU hW => Pc0_at (Wd := (wX2 G (ado 11) fsheet0)) hE (hP.subm [4, 5] rfl) (hD.sub [4, 5] (by decide) rfl) hU hW⟩ rfl rfl hl.1 rfl (lv_room (Nat.le_of_ble_eq_true rfl)) dX6_sheet_37 ⟨Nat.zero_le _, Nat.zero_le _⟩) hS hA hP hD (fun H locs hP hD hS => ?_)
            refine lv_iconst (v := (nI 1)) hx hb dX6_sheet_40 (ic_1) ?_
            have hK9 := K0_of hf hK
            exact hRet (nI 1) fsheet0_37 fsheet1 fsheet2 fsheet3 _ _ _ _ hK9 dX6_sheet_41 hP hD hS
          rw [if_neg hc34] at hf
          by_cases hc34 : x1 = nI 1
          · rw [if_pos hc34] at hf
            refine va_aldq hx hb hT hP 3 3 rfl rfl (by rw [hc34]; exact vp_in_nI (by decide) (by decide)) dX6_sheet_34 ?_
            refine W.eq (g2 := F0 m 35 ls [.int (nI 1)]) (by rw [hc34]; rfl) ?_
            refine lv_iload_n hx hb dX6_sheet_35 rfl (lv_at hl 2 rfl) ?_
            refine lv_iload_n hx hb dX6_sheet_36 rfl (lv_at hl 3 rfl) ?_
            obtain ⟨fsheet1_37, hc37, hf⟩ := bd_e hf
            refine cl_v_up (Wd := (wX6 G ad ado f ++ (wX2 G (ado 11) fsheet0 ++ (wX2 G (ado 12) fsheet1 ++ (wX2 G (ado 13) fsheet2 ++ (wX2 G (ado 14) fsheet3)))))) (Wc := (wX2 G (ado 12) fsheet1)) (W' := (wX2 G (ado 12) fsheet1_37)) (W2 := (wX6 G ad ado f ++ (wX2 G (ado 11) fsheet0 ++ (wX2 G (ado 12) fsheet1_37 ++ (wX2 G (ado 13) fsheet2 ++ (wX2 G (ado 14) fsheet3)))))) [6, 7] [0, 1, 2, 3, 4, 5, 8, 9, 10, 11] rfl rfl rfl rfl rfl (va_runVN (As := [.int x2, .int x3]) (rest := []) hC (c_X2_renew l G (ado 12) fsheet1 x2 x3 fsheet1_37 hc37 _) ⟨va_cnB 2 hts gX6_sheet_X2_renew_n296 rfl rfl rfl (hE.2.2 (RX6, 296, yX2_renew, "FeatherShares") (List.mem_of_getElem? (i := 33) rfl)) (hts (.initialized RX2) (by decide +kernel)) (by decide +kernel) ⟨Nat.le_of_ble_eq_true rfl, Nat.le_of_ble_eq_true rfl⟩, hts (.instanceMethod yX2_renew) (by decide +kernel), hts (.selects RX2 yX2_renew yX2_renew) (by decide +kernel)⟩ ⟨Pc0_blind, va_recv hT hP (q0 := 6) (ci := 2) rfl rfl, fun U hU hW => Pc0_at (Wd := (wX2 G (ado 12) fsheet1)) hE (hP.subm [6, 7] rfl) (hD.sub [6, 7] (by decide) rfl) hU hW⟩ rfl rfl hl.1 rfl (lv_room (Nat.le_of_ble_eq_true rfl)) dX6_sheet_37 ⟨Nat.zero_le _, Nat.zero_le _⟩) hS hA hP hD (fun H locs hP hD hS => ?_)
            refine lv_iconst (v := (nI 1)) hx hb dX6_sheet_40 (ic_1) ?_
            have hK9 := K0_of hf hK
            exact hRet (nI 1) fsheet0 fsheet1_37 fsheet2 fsheet3 _ _ _ _ hK9 dX6_sheet_41 hP hD hS
          rw [if_neg hc34] at hf
          by_cases hc34 : x1 = nI 2
          · rw [if_pos hc34] at hf
            refine va_aldq hx hb hT hP 3 3 rfl rfl (by rw [hc34]; exact vp_in_nI (by decide) (by decide)) dX6_sheet_34 ?_
            refine W.eq (g2 := F0 m 35 ls [.int (nI 1)]) (by rw [hc34]; rfl) ?_
            refine lv_iload_n hx hb dX6_sheet_35 rfl (lv_at hl 2 rfl) ?_
            refine lv_iload_n hx hb dX6_sheet_36 rfl (lv_at hl 3 rfl) ?_
            obtain ⟨fsheet2_37, hc37, hf⟩ := bd_e hf
            refine cl_v_up (Wd := (wX6 G ad ado f ++ (wX2 G (ado 11) fsheet0 ++ (wX2 G (ado 12) fsheet1 ++ (wX2 G (ado 13) fsheet2 ++ (wX2 G (ado 14) fsheet3)))))) (Wc := (wX2 G (ado 13) fsheet2)) (W' := (wX2 G (ado 13) fsheet2_37)) (W2 := (wX6 G ad ado f ++ (wX2 G (ado 11) fsheet0 ++ (wX2 G (ado 12) fsheet1 ++ (wX2 G (ado 13) fsheet2_37 ++ (wX2 G (ado 14) fsheet3)))))) [8, 9] [0, 1, 2, 3, 4, 5, 6, 7, 10, 11] rfl rfl rfl rfl rfl (va_runVN (As := [.int x2, .int x3]) (rest := []) hC (c_X2_renew l G (ado 13) fsheet2 x2 x3 fsheet2_37 hc37 _) ⟨va_cnB 2 hts gX6_sheet_X2_renew_n296 rfl rfl rfl (hE.2.2 (RX6, 296, yX2_renew, "FeatherShares") (List.mem_of_getElem? (i := 33) rfl)) (hts (.initialized RX2) (by decide +kernel)) (by decide +kernel) ⟨Nat.le_of_ble_eq_true rfl, Nat.le_of_ble_eq_true rfl⟩, hts (.instanceMethod yX2_renew) (by decide +kernel), hts (.selects RX2 yX2_renew yX2_renew) (by decide +kernel)⟩ ⟨Pc0_blind, va_recv hT hP (q0 := 8) (ci := 2) rfl rfl, fun U hU hW => Pc0_at (Wd := (wX2 G (ado 13) fsheet2)) hE (hP.subm [8, 9] rfl) (hD.sub [8, 9] (by decide) rfl) hU hW⟩ rfl rfl hl.1 rfl (lv_room (Nat.le_of_ble_eq_true rfl)) dX6_sheet_37 ⟨Nat.zero_le _, Nat.zero_le _⟩) hS hA hP hD (fun H locs hP hD hS => ?_)
            refine lv_iconst (v := (nI 1)) hx hb dX6_sheet_40 (ic_1) ?_
            have hK9 := K0_of hf hK
            exact hRet (nI 1) fsheet0 fsheet1 fsheet2_37 fsheet3 _ _ _ _ hK9 dX6_sheet_41 hP hD hS
          rw [if_neg hc34] at hf
          by_cases hc34 : x1 = nI 3
          · rw [if_pos hc34] at hf
            refine va_aldq hx hb hT hP 3 3 rfl rfl (by rw [hc34]; exact vp_in_nI (by decide) (by decide)) dX6_sheet_34 ?_
            refine W.eq (g2 := F0 m 35 ls [.int (nI 1)]) (by rw [hc34]; rfl) ?_
            refine lv_iload_n hx hb dX6_sheet_35 rfl (lv_at hl 2 rfl) ?_
            refine lv_iload_n hx hb dX6_sheet_36 rfl (lv_at hl 3 rfl) ?_
            obtain ⟨fsheet3_37, hc37, hf⟩ := bd_e hf
            refine cl_v_up (Wd := (wX6 G ad ado f ++ (wX2 G (ado 11) fsheet0 ++ (wX2 G (ado 12) fsheet1 ++ (wX2 G (ado 13) fsheet2 ++ (wX2 G (ado 14) fsheet3)))))) (Wc := (wX2 G (ado 14) fsheet3)) (W' := (wX2 G (ado 14) fsheet3_37)) (W2 := (wX6 G ad ado f ++ (wX2 G (ado 11) fsheet0 ++ (wX2 G (ado 12) fsheet1 ++ (wX2 G (ado 13) fsheet2 ++ (wX2 G (ado 14) fsheet3_37)))))) [10, 11] [0, 1, 2, 3, 4, 5, 6, 7, 8, 9] rfl rfl rfl rfl rfl (va_runVN (As := [.int x2, .int x3]) (rest := []) hC (c_X2_renew l G (ado 14) fsheet3 x2 x3 fsheet3_37 hc37 _) ⟨va_cnB 2 hts gX6_sheet_X2_renew_n296 rfl rfl rfl (hE.2.2 (RX6, 296, yX2_renew, "FeatherShares") (List.mem_of_getElem? (i := 33) rfl)) (hts (.initialized RX2) (by decide +kernel)) (by decide +kernel) ⟨Nat.le_of_ble_eq_true rfl, Nat.le_of_ble_eq_true rfl⟩, hts (.instanceMethod yX2_renew) (by decide +kernel), hts (.selects RX2 yX2_renew yX2_renew) (by decide +kernel)⟩ ⟨Pc0_blind, va_recv hT hP (q0 := 10) (ci := 2) rfl rfl, fun U hU hW => Pc0_at (Wd := (wX2 G (ado 14) fsheet3)) hE (hP.subm [10, 11] rfl) (hD.sub [10, 11] (by decide) rfl) hU hW⟩ rfl rfl hl.1 rfl (lv_room (Nat.le_of_ble_eq_true rfl)) dX6_sheet_37 ⟨Nat.zero_le _, Nat.zero_le _⟩) hS hA hP hD (fun H locs hP hD hS => ?_)
            refine lv_iconst (v := (nI 1)) hx hb dX6_sheet_40 (ic_1) ?_
            have hK9 := K0_of hf hK
            exact hRet (nI 1) fsheet0 fsheet1 fsheet2 fsheet3_37 _ _ _ _ hK9 dX6_sheet_41 hP hD hS
          rw [if_neg hc34] at hf
          cases hf
        · have hf := if_f hf hc
          refine lv_bipush (v := (-14 : Int32)) hx hb dX6_sheet_26 (bi_m14) ?_
          have hK9 := K0_of hf hK
          exact hRet (-14 : Int32) fsheet0 fsheet1 fsheet2 fsheet3 _ _ _ _ hK9 dX6_sheet_28 hP hD hS
      · have hf := if_f hf hc
        refine lv_iconst (v := (-1 : Int32)) hx hb dX6_sheet_20 (ic_m1) ?_
        have hK9 := K0_of hf hK
        exact hRet (-1 : Int32) fsheet0 fsheet1 fsheet2 fsheet3 _ _ _ _ hK9 dX6_sheet_21 hP hD hS
noncomputable def p_X6_lay (f : Mem) (fsheet0 : Mem) (fsheet1 : Mem) (fsheet2 : Mem) (fsheet3 : Mem) (x1 : Int32) (x2 : Int32) (x3 : Int32) : Option (Int32 × Mem × Mem × Mem × Mem) :=
  Option.bind (p_X6_isSheet x1) <| fun r1 =>
  if r1 = 0 then
    (some ((-1 : Int32), fsheet0, fsheet1, fsheet2, fsheet3))
  else
    (if x1 = nI 0 then
       (Option.bind (p_X2_put fsheet0 x2 x3) <| fun (r17, fsheet0_17) =>
       if r17 = 0 then
         (some ((nI 1), fsheet0_17, fsheet1, fsheet2, fsheet3))
       else
         (some (((-10 : Int32) - r17), fsheet0_17, fsheet1, fsheet2, fsheet3)))
     else if x1 = nI 1 then
       (Option.bind (p_X2_put fsheet1 x2 x3) <| fun (r17, fsheet1_17) =>
       if r17 = 0 then
         (some ((nI 1), fsheet0, fsheet1_17, fsheet2, fsheet3))
       else
         (some (((-10 : Int32) - r17), fsheet0, fsheet1_17, fsheet2, fsheet3)))
     else if x1 = nI 2 then
       (Option.bind (p_X2_put fsheet2 x2 x3) <| fun (r17, fsheet2_17) =>
       if r17 = 0 then
         (some ((nI 1), fsheet0, fsheet1, fsheet2_17, fsheet3))
       else
         (some (((-10 : Int32) - r17), fsheet0, fsheet1, fsheet2_17, fsheet3)))
     else if x1 = nI 3 then
       (Option.bind (p_X2_put fsheet3 x2 x3) <| fun (r17, fsheet3_17) =>
       if r17 = 0 then
         (some ((nI 1), fsheet0, fsheet1, fsheet2, fsheet3_17))
       else
         (some (((-10 : Int32) - r17), fsheet0, fsheet1, fsheet2, fsheet3_17)))
     else none)
set_option maxHeartbeats 4000000 in
set_option maxRecDepth 100000 in
theorem c_X6_lay (l : Launch) (G : Gt) (ad : Nat → Nat) (ado : Nat → Nat → Nat) (f : Mem) (fsheet0 : Mem) (fsheet1 : Mem) (fsheet2 : Mem) (fsheet3 : Mem) (x1 : Int32) (x2 : Int32) (x3 : Int32) (r : Int32) (fsheet0z : Mem) (fsheet1z : Mem) (fsheet2z : Mem) (fsheet3z : Mem) (hf : p_X6_lay f fsheet0 fsheet1 fsheet2 fsheet3 x1 x2 x3 = some (r, fsheet0z, fsheet1z, fsheet2z, fsheet3z)) (sz : Nat) : Met l yX6_lay wsX6_lay ({ frames := 3, cells := 0, slots := 0, locals := 56 }) (Pc0 G sz [.ref (ad 0), .int x1, .int x2, .int x3] (wX6 G ad ado f ++ (wX2 G (ado 11) fsheet0 ++ (wX2 G (ado 12) fsheet1 ++ (wX2 G (ado 13) fsheet2 ++ (wX2 G (ado 14) fsheet3)))))) (Qi0 G (va_A (wX6 G ad ado f ++ (wX2 G (ado 11) fsheet0 ++ (wX2 G (ado 12) fsheet1 ++ (wX2 G (ado 13) fsheet2 ++ (wX2 G (ado 14) fsheet3))))) sz) r (wX6 G ad ado f ++ (wX2 G (ado 11) fsheet0z ++ (wX2 G (ado 12) fsheet1z ++ (wX2 G (ado 13) fsheet2z ++ (wX2 G (ado 14) fsheet3z)))))) 0 0 (va_A (wX6 G ad ado f ++ (wX2 G (ado 11) fsheet0 ++ (wX2 G (ado 12) fsheet1 ++ (wX2 G (ado 13) fsheet2 ++ (wX2 G (ado 14) fsheet3))))) sz) := by
  refine metP (Qf := fun A => Qi0 G A r (wX6 G ad ado f ++ (wX2 G (ado 11) fsheet0z ++ (wX2 G (ado 12) fsheet1z ++ (wX2 G (ado 13) fsheet2z ++ (wX2 G (ado 14) fsheet3z)))))) cX6_lay 5 (some .int) (by decide) rfl (Nat.le_of_ble_eq_true rfl) ?_
  intro p e s m below meth c A ls hC hr hlocks hin hE hA hsz hP hD hS hl
  generalize hargs : ([.ref (ad 0), .int x1, .int x2, .int x3] : List Value).toArray = args at hC ⊢
  obtain ⟨hx, hb, hml, hown, hts⟩ := id hC
  have hT : va_K G.1 vwCl (tyL G) s := hE.1
  have hRet : ∀ (r9 : Int32) (fsheet09 : Mem) (fsheet19 : Mem) (fsheet29 : Mem) (fsheet39 : Mem) (H : Heap) (locs : List Loc) (ls : Array Slot) (pc : Nat) (hK9 : (r9, fsheet09, fsheet19, fsheet29, fsheet39) = (r, fsheet0z, fsheet1z, fsheet2z, fsheet3z)) (hdg : decode cX6_lay pc = .ok (.ireturn, 1)), va_P G.1 vwCl (wX6 G ad ado f ++ (wX2 G (ado 11) fsheet09 ++ (wX2 G (ado 12) fsheet19 ++ (wX2 G (ado 13) fsheet29 ++ (wX2 G (ado 14) fsheet39))))) H → va_D A (wX6 G ad ado f ++ (wX2 G (ado 11) fsheet09 ++ (wX2 G (ado 12) fsheet19 ++ (wX2 G (ado 13) fsheet29 ++ (wX2 G (ado 14) fsheet39))))) → va_S A s.heap H locs → W p l e ({ frames := 3, cells := 0, slots := 0, locals := 56 }) s m args below meth c H locs 0 0 (MQ below (Qi0 G A r (wX6 G ad ado f ++ (wX2 G (ado 11) fsheet0z ++ (wX2 G (ado 12) fsheet1z ++ (wX2 G (ado 13) fsheet2z ++ (wX2 G (ado 14) fsheet3z)))))) args s 0 0 A) (F0 m pc ls [.int r9]) := by
    intro r9 fsheet09 fsheet19 fsheet29 fsheet39 H locs ls pc hK9 hdg hP hD hS
    cases hK9
    exact W.iret hx hb hr (fun t ht hW => ⟨⟨r, (), rfl, rfl, by rw [ht]; exact hP, hD⟩, hS.F ht⟩) hS.2.2 hdg hlocks
  generalize MQ below (Qi0 G A r (wX6 G ad ado f ++ (wX2 G (ado 11) fsheet0z ++ (wX2 G (ado 12) fsheet1z ++ (wX2 G (ado 13) fsheet2z ++ (wX2 G (ado 14) fsheet3z)))))) args s 0 0 A = Q at hRet ⊢
  have lk61 := hts (.fieldLink RX6 61 "FeatherShares" "sheets" "[LFeatherShares$Sheet;") (by decide +kernel)
  have inX6 : ∀ w ∈ u_ws RX6 TX6 11, w ∈ wsX6_lay := by decide +kernel
  have hl : lv_has ls 5 [(0, .ref (ad 0)), (1, .int x1), (2, .int x2), (3, .int x3)] := hl
  have hK0 : (r, fsheet0z, fsheet1z, fsheet2z, fsheet3z) = (r, fsheet0z, fsheet1z, fsheet2z, fsheet3z) := rfl
  obtain ⟨res, hres, hK⟩ : ∃ res, p_X6_lay f fsheet0 fsheet1 fsheet2 fsheet3 x1 x2 x3 = some res ∧ res = (r, fsheet0z, fsheet1z, fsheet2z, fsheet3z) := ⟨_, hf, rfl⟩
  clear hf
  have hf := hres
  clear hres
  unfold p_X6_lay at hf
  refine lv_iload_n hx hb dX6_lay_0 rfl (lv_at hl 1 rfl) ?_
  obtain ⟨r1, hc1, hf⟩ := bd_e hf
  refine cl_z_ro (Wd := (wX6 G ad ado f ++ (wX2 G (ado 11) fsheet0 ++ (wX2 G (ado 12) fsheet1 ++ (wX2 G (ado 13) fsheet2 ++ (wX2 G (ado 14) fsheet3)))))) (Wc := ([] : va_W)) [] rfl (va_runS (As := [.int x1]) (rest := []) hC (c_X6_isSheet l G x1 r1 hc1 _) (va_cwS 1 hts gX6_lay_X6_isSheet rfl rfl rfl (by decide +kernel) ⟨Nat.le_of_ble_eq_true rfl, Nat.le_of_ble_eq_true rfl⟩) ⟨Pc0_blind, fun U hU hW => Pc0_at (Wd := ([] : va_W)) hE (hP.subm [] rfl) (hD.sub [] (by decide) rfl) hU hW⟩ rfl rfl hl.1 rfl (lv_room (Nat.le_of_ble_eq_true rfl)) dX6_lay_1 ⟨Nat.zero_le _, Nat.zero_le _⟩) hS hA hP hD (fun H locs hn1 hP hD hS => ?_)
  refine lv_if_ne (tgt := 9) hx hb dX6_lay_4 (by decide) (fun hc => ?_) (fun hc => ?_)
  · have hf := if_f hf hc
    refine lv_aload_n hx hb dX6_lay_9 rfl (lv_at hl 0 rfl) ?_
    refine va_get (C := RX6) (T := TX6) (N := 11) (ci := 6) (v := .ref (ad 3)) hx hb hts inX6 hown hT hP 0 rfl rfl 9 (Nat.le_of_ble_eq_true rfl) lk61 (fun _ h => h) rfl dX6_lay_10 ?_
    refine lv_iload_n hx hb dX6_lay_13 rfl (lv_at hl 1 rfl) ?_
    by_cases hc14 : x1 = nI 0
    · rw [if_pos hc14] at hf
      refine va_aldq hx hb hT hP 3 3 rfl rfl (by rw [hc14]; exact vp_in_nI (by decide) (by decide)) dX6_lay_14 ?_
      refine W.eq (g2 := F0 m 15 ls []) (by rw [hc14]; rfl) ?_
      refine lv_iload_n hx hb dX6_lay_15 rfl (lv_at hl 2 rfl) ?_
      refine lv_iload_n hx hb dX6_lay_16 rfl (lv_at hl 3 rfl) ?_
      obtain ⟨⟨r17, fsheet0_17⟩, hc17, hf⟩ := bd_e hf
      try dsimp only at hf
      refine cl_i_up (Wd := (wX6 G ad ado f ++ (wX2 G (ado 11) fsheet0 ++ (wX2 G (ado 12) fsheet1 ++ (wX2 G (ado 13) fsheet2 ++ (wX2 G (ado 14) fsheet3)))))) (Wc := (wX2 G (ado 11) fsheet0)) (W' := (wX2 G (ado 11) fsheet0_17)) (W2 := (wX6 G ad ado f ++ (wX2 G (ado 11) fsheet0_17 ++ (wX2 G (ado 12) fsheet1 ++ (wX2 G (ado 13) fsheet2 ++ (wX2 G (ado 14) fsheet3)))))) [4, 5] [0, 1, 2, 3, 6, 7, 8, 9, 10, 11] rfl rfl rfl rfl rfl (va_runVN (As := [.int x2, .int x3]) (rest := []) hC (c_X2_put l G (ado 11) fsheet0 x2 x3 r17 fsheet0_17 hc17 _) ⟨va_cnB 2 hts gX6_lay_X2_put_n300 rfl rfl rfl (hE.2.2 (RX6, 300, yX2_put, "FeatherShares") (List.mem_of_getElem? (i := 34) rfl)) (hts (.initialized RX2) (by decide +kernel)) (by decide +kernel) ⟨Nat.le_of_ble_eq_true rfl, Nat.le_of_ble_eq_true rfl⟩, hts (.instanceMethod yX2_put) (by decide +kernel), hts (.selects RX2 yX2_put yX2_put) (by decide +kernel)⟩ ⟨Pc0_blind, va_recv hT hP (q0 := 4) (ci := 2) rfl rfl, fun U hU hW => Pc0_at (Wd := (wX2 G (ado 11) fsheet0)) hE (hP.subm [4, 5] rfl) (hD.sub [4, 5] (by decide) rfl) hU hW⟩ rfl rfl hl.1 rfl (lv_room (Nat.le_of_ble_eq_true rfl)) dX6_lay_17 ⟨Nat.zero_le _, Nat.zero_le _⟩) hS hA hP hD (fun H locs hP hD hS => ?_)
      refine lv_istore (lv' := [(4, .int r17), (0, .ref (ad 0)), (1, .int x1), (2, .int x2), (3, .int x3)]) hx hb dX6_lay_20 hl (by decide) rfl (fun ls hl => ?_)
      refine lv_iload hx hb dX6_lay_22 (lv_at hl 0 rfl) ?_
      refine lv_if_ne (tgt := 31) hx hb dX6_lay_24 (by decide) (fun hc => ?_) (fun hc => ?_)
      · have hf := if_f hf hc
        refine lv_bipush (v := (-10 : Int32)) hx hb dX6_lay_31 (bi_m10) ?_
        refine lv_iload hx hb dX6_lay_33 (lv_at hl 0 rfl) ?_
        refine lv_isub hx hb dX6_lay_35 ?_
        have hK9 := K0_of hf hK
        exact hRet ((-10 : Int32) - r17) fsheet0_17 fsheet1 fsheet2 fsheet3 _ _ _ _ hK9 dX6_lay_36 hP hD hS
      · have hf := if_t hf hc
        refine lv_iconst (v := (nI 1)) hx hb dX6_lay_27 (ic_1) ?_
        refine lv_goto (tgt := 36) hx hb dX6_lay_28 (by decide) ?_
        have hK9 := K0_of hf hK
        exact hRet (nI 1) fsheet0_17 fsheet1 fsheet2 fsheet3 _ _ _ _ hK9 dX6_lay_36 hP hD hS
    rw [if_neg hc14] at hf
    by_cases hc14 : x1 = nI 1
    · rw [if_pos hc14] at hf
      refine va_aldq hx hb hT hP 3 3 rfl rfl (by rw [hc14]; exact vp_in_nI (by decide) (by decide)) dX6_lay_14 ?_
      refine W.eq (g2 := F0 m 15 ls []) (by rw [hc14]; rfl) ?_
      refine lv_iload_n hx hb dX6_lay_15 rfl (lv_at hl 2 rfl) ?_
      refine lv_iload_n hx hb dX6_lay_16 rfl (lv_at hl 3 rfl) ?_
      obtain ⟨⟨r17, fsheet1_17⟩, hc17, hf⟩ := bd_e hf
      try dsimp only at hf
      refine cl_i_up (Wd := (wX6 G ad ado f ++ (wX2 G (ado 11) fsheet0 ++ (wX2 G (ado 12) fsheet1 ++ (wX2 G (ado 13) fsheet2 ++ (wX2 G (ado 14) fsheet3)))))) (Wc := (wX2 G (ado 12) fsheet1)) (W' := (wX2 G (ado 12) fsheet1_17)) (W2 := (wX6 G ad ado f ++ (wX2 G (ado 11) fsheet0 ++ (wX2 G (ado 12) fsheet1_17 ++ (wX2 G (ado 13) fsheet2 ++ (wX2 G (ado 14) fsheet3)))))) [6, 7] [0, 1, 2, 3, 4, 5, 8, 9, 10, 11] rfl rfl rfl rfl rfl (va_runVN (As := [.int x2, .int x3]) (rest := []) hC (c_X2_put l G (ado 12) fsheet1 x2 x3 r17 fsheet1_17 hc17 _) ⟨va_cnB 2 hts gX6_lay_X2_put_n300 rfl rfl rfl (hE.2.2 (RX6, 300, yX2_put, "FeatherShares") (List.mem_of_getElem? (i := 34) rfl)) (hts (.initialized RX2) (by decide +kernel)) (by decide +kernel) ⟨Nat.le_of_ble_eq_true rfl, Nat.le_of_ble_eq_true rfl⟩, hts (.instanceMethod yX2_put) (by decide +kernel), hts (.selects RX2 yX2_put yX2_put) (by decide +kernel)⟩ ⟨Pc0_blind, va_recv hT hP (q0 := 6) (ci := 2) rfl rfl, fun U hU hW => Pc0_at (Wd := (wX2 G (ado 12) fsheet1)) hE (hP.subm [6, 7] rfl) (hD.sub [6, 7] (by decide) rfl) hU hW⟩ rfl rfl hl.1 rfl (lv_room (Nat.le_of_ble_eq_true rfl)) dX6_lay_17 ⟨Nat.zero_le _, Nat.zero_le _⟩) hS hA hP hD (fun H locs hP hD hS => ?_)
      refine lv_istore (lv' := [(4, .int r17), (0, .ref (ad 0)), (1, .int x1), (2, .int x2), (3, .int x3)]) hx hb dX6_lay_20 hl (by decide) rfl (fun ls hl => ?_)
      refine lv_iload hx hb dX6_lay_22 (lv_at hl 0 rfl) ?_
      refine lv_if_ne (tgt := 31) hx hb dX6_lay_24 (by decide) (fun hc => ?_) (fun hc => ?_)
      · have hf := if_f hf hc
        refine lv_bipush (v := (-10 : Int32)) hx hb dX6_lay_31 (bi_m10) ?_
        refine lv_iload hx hb dX6_lay_33 (lv_at hl 0 rfl) ?_
        refine lv_isub hx hb dX6_lay_35 ?_
        have hK9 := K0_of hf hK
        exact hRet ((-10 : Int32) - r17) fsheet0 fsheet1_17 fsheet2 fsheet3 _ _ _ _ hK9 dX6_lay_36 hP hD hS
      · have hf := if_t hf hc
        refine lv_iconst (v := (nI 1)) hx hb dX6_lay_27 (ic_1) ?_
        refine lv_goto (tgt := 36) hx hb dX6_lay_28 (by decide) ?_
        have hK9 := K0_of hf hK
        exact hRet (nI 1) fsheet0 fsheet1_17 fsheet2 fsheet3 _ _ _ _ hK9 dX6_lay_36 hP hD hS
    rw [if_neg hc14] at hf
    by_cases hc14 : x1 = nI 2
    · rw [if_pos hc14] at hf
      refine va_aldq hx hb hT hP 3 3 rfl rfl (by rw [hc14]; exact vp_in_nI (by decide) (by decide)) dX6_lay_14 ?_
      refine W.eq (g2 := F0 m 15 ls []) (by rw [hc14]; rfl) ?_
      refine lv_iload_n hx hb dX6_lay_15 rfl (lv_at hl 2 rfl) ?_
      refine lv_iload_n hx hb dX6_lay_16 rfl (lv_at hl 3 rfl) ?_
      obtain ⟨⟨r17, fsheet2_17⟩, hc17, hf⟩ := bd_e hf
      try dsimp only at hf
      refine cl_i_up (Wd := (wX6 G ad ado f ++ (wX2 G (ado 11) fsheet0 ++ (wX2 G (ado 12) fsheet1 ++ (wX2 G (ado 13) fsheet2 ++ (wX2 G (ado 14) fsheet3)))))) (Wc := (wX2 G (ado 13) fsheet2)) (W' := (wX2 G (ado 13) fsheet2_17)) (W2 := (wX6 G ad ado f ++ (wX2 G (ado 11) fsheet0 ++ (wX2 G (ado 12) fsheet1 ++ (wX2 G (ado 13) fsheet2_17 ++ (wX2 G (ado 14) fsheet3)))))) [8, 9] [0, 1, 2, 3, 4, 5, 6, 7, 10, 11] rfl rfl rfl rfl rfl (va_runVN (As := [.int x2, .int x3]) (rest := []) hC (c_X2_put l G (ado 13) fsheet2 x2 x3 r17 fsheet2_17 hc17 _) ⟨va_cnB 2 hts gX6_lay_X2_put_n300 rfl rfl rfl (hE.2.2 (RX6, 300, yX2_put, "FeatherShares") (List.mem_of_getElem? (i := 34) rfl)) (hts (.initialized RX2) (by decide +kernel)) (by decide +kernel) ⟨Nat.le_of_ble_eq_true rfl, Nat.le_of_ble_eq_true rfl⟩, hts (.instanceMethod yX2_put) (by decide +kernel), hts (.selects RX2 yX2_put yX2_put) (by decide +kernel)⟩ ⟨Pc0_blind, va_recv hT hP (q0 := 8) (ci := 2) rfl rfl, fun U hU hW => Pc0_at (Wd := (wX2 G (ado 13) fsheet2)) hE (hP.subm [8, 9] rfl) (hD.sub [8, 9] (by decide) rfl) hU hW⟩ rfl rfl hl.1 rfl (lv_room (Nat.le_of_ble_eq_true rfl)) dX6_lay_17 ⟨Nat.zero_le _, Nat.zero_le _⟩) hS hA hP hD (fun H locs hP hD hS => ?_)
      refine lv_istore (lv' := [(4, .int r17), (0, .ref (ad 0)), (1, .int x1), (2, .int x2), (3, .int x3)]) hx hb dX6_lay_20 hl (by decide) rfl (fun ls hl => ?_)
      refine lv_iload hx hb dX6_lay_22 (lv_at hl 0 rfl) ?_
      refine lv_if_ne (tgt := 31) hx hb dX6_lay_24 (by decide) (fun hc => ?_) (fun hc => ?_)
      · have hf := if_f hf hc
        refine lv_bipush (v := (-10 : Int32)) hx hb dX6_lay_31 (bi_m10) ?_
        refine lv_iload hx hb dX6_lay_33 (lv_at hl 0 rfl) ?_
        refine lv_isub hx hb dX6_lay_35 ?_
        have hK9 := K0_of hf hK
        exact hRet ((-10 : Int32) - r17) fsheet0 fsheet1 fsheet2_17 fsheet3 _ _ _ _ hK9 dX6_lay_36 hP hD hS
      · have hf := if_t hf hc
        refine lv_iconst (v := (nI 1)) hx hb dX6_lay_27 (ic_1) ?_
        refine lv_goto (tgt := 36) hx hb dX6_lay_28 (by decide) ?_
        have hK9 := K0_of hf hK
        exact hRet (nI 1) fsheet0 fsheet1 fsheet2_17 fsheet3 _ _ _ _ hK9 dX6_lay_36 hP hD hS
    rw [if_neg hc14] at hf
    by_cases hc14 : x1 = nI 3
    · rw [if_pos hc14] at hf
      refine va_aldq hx hb hT hP 3 3 rfl rfl (by rw [hc14]; exact vp_in_nI (by decide) (by decide)) dX6_lay_14 ?_
      refine W.eq (g2 := F0 m 15 ls []) (by rw [hc14]; rfl) ?_
      refine lv_iload_n hx hb dX6_lay_15 rfl (lv_at hl 2 rfl) ?_
      refine lv_iload_n hx hb dX6_lay_16 rfl (lv_at hl 3 rfl) ?_
      obtain ⟨⟨r17, fsheet3_17⟩, hc17, hf⟩ := bd_e hf
      try dsimp only at hf
      refine cl_i_up (Wd := (wX6 G ad ado f ++ (wX2 G (ado 11) fsheet0 ++ (wX2 G (ado 12) fsheet1 ++ (wX2 G (ado 13) fsheet2 ++ (wX2 G (ado 14) fsheet3)))))) (Wc := (wX2 G (ado 14) fsheet3)) (W' := (wX2 G (ado 14) fsheet3_17)) (W2 := (wX6 G ad ado f ++ (wX2 G (ado 11) fsheet0 ++ (wX2 G (ado 12) fsheet1 ++ (wX2 G (ado 13) fsheet2 ++ (wX2 G (ado 14) fsheet3_17)))))) [10, 11] [0, 1, 2, 3, 4, 5, 6, 7, 8, 9] rfl rfl rfl rfl rfl (va_runVN (As := [.int x2, .int x3]) (rest := []) hC (c_X2_put l G (ado 14) fsheet3 x2 x3 r17 fsheet3_17 hc17 _) ⟨va_cnB 2 hts gX6_lay_X2_put_n300 rfl rfl rfl (hE.2.2 (RX6, 300, yX2_put, "FeatherShares") (List.mem_of_getElem? (i := 34) rfl)) (hts (.initialized RX2) (by decide +kernel)) (by decide +kernel) ⟨Nat.le_of_ble_eq_true rfl, Nat.le_of_ble_eq_true rfl⟩, hts (.instanceMethod yX2_put) (by decide +kernel), hts (.selects RX2 yX2_put yX2_put) (by decide +kernel)⟩ ⟨Pc0_blind, va_recv hT hP (q0 := 10) (ci := 2) rfl rfl, fun U hU hW => Pc0_at (Wd := (wX2 G (ado 14) fsheet3)) hE (hP.subm [10, 11] rfl) (hD.sub [10, 11] (by decide) rfl) hU hW⟩ rfl rfl hl.1 rfl (lv_room (Nat.le_of_ble_eq_true rfl)) dX6_lay_17 ⟨Nat.zero_le _, Nat.zero_le _⟩) hS hA hP hD (fun H locs hP hD hS => ?_)
      refine lv_istore (lv' := [(4, .int r17), (0, .ref (ad 0)), (1, .int x1), (2, .int x2), (3, .int x3)]) hx hb dX6_lay_20 hl (by decide) rfl (fun ls hl => ?_)
      refine lv_iload hx hb dX6_lay_22 (lv_at hl 0 rfl) ?_
      refine lv_if_ne (tgt := 31) hx hb dX6_lay_24 (by decide) (fun hc => ?_) (fun hc => ?_)
      · have hf := if_f hf hc
        refine lv_bipush (v := (-10 : Int32)) hx hb dX6_lay_31 (bi_m10) ?_
        refine lv_iload hx hb dX6_lay_33 (lv_at hl 0 rfl) ?_
        refine lv_isub hx hb dX6_lay_35 ?_
        have hK9 := K0_of hf hK
        exact hRet ((-10 : Int32) - r17) fsheet0 fsheet1 fsheet2 fsheet3_17 _ _ _ _ hK9 dX6_lay_36 hP hD hS
      · have hf := if_t hf hc
        refine lv_iconst (v := (nI 1)) hx hb dX6_lay_27 (ic_1) ?_
        refine lv_goto (tgt := 36) hx hb dX6_lay_28 (by decide) ?_
        have hK9 := K0_of hf hK
        exact hRet (nI 1) fsheet0 fsheet1 fsheet2 fsheet3_17 _ _ _ _ hK9 dX6_lay_36 hP hD hS
    rw [if_neg hc14] at hf
    cases hf
  · have hf := if_t hf hc
    refine lv_iconst (v := (-1 : Int32)) hx hb dX6_lay_7 (ic_m1) ?_
    have hK9 := K0_of hf hK
    exact hRet (-1 : Int32) fsheet0 fsheet1 fsheet2 fsheet3 _ _ _ _ hK9 dX6_lay_8 hP hD hS
noncomputable def p_X6_read_B119 (f : Mem) (fnow : Mem) (ftrial : Mem) (fsheet0 : Mem) (fsheet1 : Mem) (fsheet2 : Mem) (fsheet3 : Mem) (x6 : Int32) (x7 : Int32) : Option (Int32 × Mem × Mem × Mem) :=
  Option.bind (p_X0_copyFrom fnow ftrial) <| fun fnow_127 =>
  some (x7, (mset 0 1 x6 f), fnow_127, ftrial)
noncomputable def p_X6_read_L55_0 (f : Mem) (fnow : Mem) (fsheet0 : Mem) (fsheet1 : Mem) (fsheet2 : Mem) (fsheet3 : Mem) (x2 : Int32) (x3 : Int32) (x4 : Int32) (z : Int32 × Int32 × Int32 × Mem) : Option ((Int32 × Int32 × Int32 × Mem) ⊕ ((Int32 × Int32 × Mem) ⊕ (Int32 × Mem × Mem × Mem))) :=
  match z with
  | (x6, x7, x8, ftrial_) =>
    if x4 ≤ x8 then
      (some (Sum.inr (Sum.inl (x6, x7, ftrial_))))
    else
      (if x6 = 0 then
         (Option.bind (p_X2_faultOfTrade fsheet0 x2 (x3 + ((nI 4) * x8))) <| fun r80 =>
          if r80 = 0 then
            (Option.bind (p_X2_tradeOn fsheet0 ftrial_ (x3 + ((nI 4) * x8))) <| fun (r98, ftrial_98) =>
             if r98 = 0 then
               (some (Sum.inr (Sum.inr (((-20 : Int32) - x8), f, fnow, ftrial_98))))
             else
               (some (Sum.inl (r80, (x7 + nI 1), (x8 + nI 1), ftrial_98))))
          else
            (some (Sum.inl (r80, x7, (x8 + nI 1), ftrial_))))
       else
         (some (Sum.inr (Sum.inl (x6, x7, ftrial_)))))
noncomputable def p_X6_read_L55_1 (f : Mem) (fnow : Mem) (fsheet0 : Mem) (fsheet1 : Mem) (fsheet2 : Mem) (fsheet3 : Mem) (x2 : Int32) (x3 : Int32) (x4 : Int32) (z : Int32 × Int32 × Int32 × Mem) : Option ((Int32 × Int32 × Int32 × Mem) ⊕ ((Int32 × Int32 × Mem) ⊕ (Int32 × Mem × Mem × Mem))) :=
  match z with
  | (x6, x7, x8, ftrial_) =>
    if x4 ≤ x8 then
      (some (Sum.inr (Sum.inl (x6, x7, ftrial_))))
    else
      (if x6 = 0 then
         (Option.bind (p_X2_faultOfTrade fsheet1 x2 (x3 + ((nI 4) * x8))) <| fun r80 =>
          if r80 = 0 then
            (Option.bind (p_X2_tradeOn fsheet1 ftrial_ (x3 + ((nI 4) * x8))) <| fun (r98, ftrial_98) =>
             if r98 = 0 then
               (some (Sum.inr (Sum.inr (((-20 : Int32) - x8), f, fnow, ftrial_98))))
             else
               (some (Sum.inl (r80, (x7 + nI 1), (x8 + nI 1), ftrial_98))))
          else
            (some (Sum.inl (r80, x7, (x8 + nI 1), ftrial_))))
       else
         (some (Sum.inr (Sum.inl (x6, x7, ftrial_)))))
noncomputable def p_X6_read_L55_2 (f : Mem) (fnow : Mem) (fsheet0 : Mem) (fsheet1 : Mem) (fsheet2 : Mem) (fsheet3 : Mem) (x2 : Int32) (x3 : Int32) (x4 : Int32) (z : Int32 × Int32 × Int32 × Mem) : Option ((Int32 × Int32 × Int32 × Mem) ⊕ ((Int32 × Int32 × Mem) ⊕ (Int32 × Mem × Mem × Mem))) :=
  match z with
  | (x6, x7, x8, ftrial_) =>
    if x4 ≤ x8 then
      (some (Sum.inr (Sum.inl (x6, x7, ftrial_))))
    else
      (if x6 = 0 then
         (Option.bind (p_X2_faultOfTrade fsheet2 x2 (x3 + ((nI 4) * x8))) <| fun r80 =>
          if r80 = 0 then
            (Option.bind (p_X2_tradeOn fsheet2 ftrial_ (x3 + ((nI 4) * x8))) <| fun (r98, ftrial_98) =>
             if r98 = 0 then
               (some (Sum.inr (Sum.inr (((-20 : Int32) - x8), f, fnow, ftrial_98))))
             else
               (some (Sum.inl (r80, (x7 + nI 1), (x8 + nI 1), ftrial_98))))
          else
            (some (Sum.inl (r80, x7, (x8 + nI 1), ftrial_))))
       else
         (some (Sum.inr (Sum.inl (x6, x7, ftrial_)))))
noncomputable def p_X6_read_L55_3 (f : Mem) (fnow : Mem) (fsheet0 : Mem) (fsheet1 : Mem) (fsheet2 : Mem) (fsheet3 : Mem) (x2 : Int32) (x3 : Int32) (x4 : Int32) (z : Int32 × Int32 × Int32 × Mem) : Option ((Int32 × Int32 × Int32 × Mem) ⊕ ((Int32 × Int32 × Mem) ⊕ (Int32 × Mem × Mem × Mem))) :=
  match z with
  | (x6, x7, x8, ftrial_) =>
    if x4 ≤ x8 then
      (some (Sum.inr (Sum.inl (x6, x7, ftrial_))))
    else
      (if x6 = 0 then
         (Option.bind (p_X2_faultOfTrade fsheet3 x2 (x3 + ((nI 4) * x8))) <| fun r80 =>
          if r80 = 0 then
            (Option.bind (p_X2_tradeOn fsheet3 ftrial_ (x3 + ((nI 4) * x8))) <| fun (r98, ftrial_98) =>
             if r98 = 0 then
               (some (Sum.inr (Sum.inr (((-20 : Int32) - x8), f, fnow, ftrial_98))))
             else
               (some (Sum.inl (r80, (x7 + nI 1), (x8 + nI 1), ftrial_98))))
          else
            (some (Sum.inl (r80, x7, (x8 + nI 1), ftrial_))))
       else
         (some (Sum.inr (Sum.inl (x6, x7, ftrial_)))))
noncomputable def p_X6_read (f : Mem) (fnow : Mem) (ftrial : Mem) (fsheet0 : Mem) (fsheet1 : Mem) (fsheet2 : Mem) (fsheet3 : Mem) (x1 : Int32) (x2 : Int32) (x3 : Int32) (x4 : Int32) : Option (Int32 × Mem × Mem × Mem) :=
  Option.bind (p_X6_isSheet x1) <| fun r1 =>
  if r1 = 0 then
    (some ((-1 : Int32), f, fnow, ftrial))
  else
    (Option.bind (p_X6_isLane x2) <| fun r8 =>
     if r8 = 0 then
       (some ((-1 : Int32), f, fnow, ftrial))
     else
       (Option.bind (p_X6_isWithin x4 (nI 0) (nI 10)) <| fun r19 =>
        if r19 = 0 then
          (some ((-1 : Int32), f, fnow, ftrial))
        else
          (if x1 = nI 0 then
             (Option.bind (p_X0_copyFrom ftrial fnow) <| fun ftrial_43 =>
             Option.bind (lp (p_X6_read_L55_0 f fnow fsheet0 fsheet1 fsheet2 fsheet3 x2 x3 x4) ((nI 0), (nI 0), (nI 0), ftrial_43)) <| Sum.elim (fun (y6_55, y7_55, ftrial_55) =>
               p_X6_read_B119 f fnow ftrial_55 fsheet0 fsheet1 fsheet2 fsheet3 y6_55 y7_55) some)
           else if x1 = nI 1 then
             (Option.bind (p_X0_copyFrom ftrial fnow) <| fun ftrial_43 =>
             Option.bind (lp (p_X6_read_L55_1 f fnow fsheet0 fsheet1 fsheet2 fsheet3 x2 x3 x4) ((nI 0), (nI 0), (nI 0), ftrial_43)) <| Sum.elim (fun (y6_55, y7_55, ftrial_55) =>
               p_X6_read_B119 f fnow ftrial_55 fsheet0 fsheet1 fsheet2 fsheet3 y6_55 y7_55) some)
           else if x1 = nI 2 then
             (Option.bind (p_X0_copyFrom ftrial fnow) <| fun ftrial_43 =>
             Option.bind (lp (p_X6_read_L55_2 f fnow fsheet0 fsheet1 fsheet2 fsheet3 x2 x3 x4) ((nI 0), (nI 0), (nI 0), ftrial_43)) <| Sum.elim (fun (y6_55, y7_55, ftrial_55) =>
               p_X6_read_B119 f fnow ftrial_55 fsheet0 fsheet1 fsheet2 fsheet3 y6_55 y7_55) some)
           else if x1 = nI 3 then
             (Option.bind (p_X0_copyFrom ftrial fnow) <| fun ftrial_43 =>
             Option.bind (lp (p_X6_read_L55_3 f fnow fsheet0 fsheet1 fsheet2 fsheet3 x2 x3 x4) ((nI 0), (nI 0), (nI 0), ftrial_43)) <| Sum.elim (fun (y6_55, y7_55, ftrial_55) =>
               p_X6_read_B119 f fnow ftrial_55 fsheet0 fsheet1 fsheet2 fsheet3 y6_55 y7_55) some)
           else none)))
set_option maxHeartbeats 4000000 in
set_option maxRecDepth 100000 in
theorem c_X6_read (l : Launch) (G : Gt) (ad : Nat → Nat) (ado : Nat → Nat → Nat) (f : Mem) (fnow : Mem) (ftrial : Mem) (fsheet0 : Mem) (fsheet1 : Mem) (fsheet2 : Mem) (fsheet3 : Mem) (x1 : Int32) (x2 : Int32) (x3 : Int32) (x4 : Int32) (r : Int32) (fz : Mem) (fnowz : Mem) (ftrialz : Mem) (hf : p_X6_read f fnow ftrial fsheet0 fsheet1 fsheet2 fsheet3 x1 x2 x3 x4 = some (r, fz, fnowz, ftrialz)) (sz : Nat) : Met l yX6_read wsX6_read ({ frames := 6, cells := 0, slots := 0, locals := 129 }) (Pc0 G sz [.ref (ad 0), .int x1, .int x2, .int x3, .int x4] (wX6 G ad ado f ++ (wX0 G (ado 1) fnow ++ (wX0 G (ado 2) ftrial ++ (wX2 G (ado 11) fsheet0 ++ (wX2 G (ado 12) fsheet1 ++ (wX2 G (ado 13) fsheet2 ++ (wX2 G (ado 14) fsheet3)))))))) (Qi0 G (va_A (wX6 G ad ado f ++ (wX0 G (ado 1) fnow ++ (wX0 G (ado 2) ftrial ++ (wX2 G (ado 11) fsheet0 ++ (wX2 G (ado 12) fsheet1 ++ (wX2 G (ado 13) fsheet2 ++ (wX2 G (ado 14) fsheet3))))))) sz) r (wX6 G ad ado fz ++ (wX0 G (ado 1) fnowz ++ (wX0 G (ado 2) ftrialz ++ (wX2 G (ado 11) fsheet0 ++ (wX2 G (ado 12) fsheet1 ++ (wX2 G (ado 13) fsheet2 ++ (wX2 G (ado 14) fsheet3)))))))) 0 0 (va_A (wX6 G ad ado f ++ (wX0 G (ado 1) fnow ++ (wX0 G (ado 2) ftrial ++ (wX2 G (ado 11) fsheet0 ++ (wX2 G (ado 12) fsheet1 ++ (wX2 G (ado 13) fsheet2 ++ (wX2 G (ado 14) fsheet3))))))) sz) := by
  refine metP (Qf := fun A => Qi0 G A r (wX6 G ad ado fz ++ (wX0 G (ado 1) fnowz ++ (wX0 G (ado 2) ftrialz ++ (wX2 G (ado 11) fsheet0 ++ (wX2 G (ado 12) fsheet1 ++ (wX2 G (ado 13) fsheet2 ++ (wX2 G (ado 14) fsheet3)))))))) cX6_read 10 (some .int) (by decide) rfl (Nat.le_of_ble_eq_true rfl) ?_
  intro p e s m below meth c A ls hC hr hlocks hin hE hA hsz hP hD hS hl
  generalize hargs : ([.ref (ad 0), .int x1, .int x2, .int x3, .int x4] : List Value).toArray = args at hC ⊢
  obtain ⟨hx, hb, hml, hown, hts⟩ := id hC
  have hT : va_K G.1 vwCl (tyL G) s := hE.1
  have hRet : ∀ (r9 : Int32) (f9 : Mem) (fnow9 : Mem) (ftrial9 : Mem) (H : Heap) (locs : List Loc) (ls : Array Slot) (pc : Nat) (hK9 : (r9, f9, fnow9, ftrial9) = (r, fz, fnowz, ftrialz)) (hdg : decode cX6_read pc = .ok (.ireturn, 1)), va_P G.1 vwCl (wX6 G ad ado f9 ++ (wX0 G (ado 1) fnow9 ++ (wX0 G (ado 2) ftrial9 ++ (wX2 G (ado 11) fsheet0 ++ (wX2 G (ado 12) fsheet1 ++ (wX2 G (ado 13) fsheet2 ++ (wX2 G (ado 14) fsheet3))))))) H → va_D A (wX6 G ad ado f9 ++ (wX0 G (ado 1) fnow9 ++ (wX0 G (ado 2) ftrial9 ++ (wX2 G (ado 11) fsheet0 ++ (wX2 G (ado 12) fsheet1 ++ (wX2 G (ado 13) fsheet2 ++ (wX2 G (ado 14) fsheet3))))))) → va_S A s.heap H locs → W p l e ({ frames := 6, cells := 0, slots := 0, locals := 129 }) s m args below meth c H locs 0 0 (MQ below (Qi0 G A r (wX6 G ad ado fz ++ (wX0 G (ado 1) fnowz ++ (wX0 G (ado 2) ftrialz ++ (wX2 G (ado 11) fsheet0 ++ (wX2 G (ado 12) fsheet1 ++ (wX2 G (ado 13) fsheet2 ++ (wX2 G (ado 14) fsheet3)))))))) args s 0 0 A) (F0 m pc ls [.int r9]) := by
    intro r9 f9 fnow9 ftrial9 H locs ls pc hK9 hdg hP hD hS
    cases hK9
    exact W.iret hx hb hr (fun t ht hW => ⟨⟨r, (), rfl, rfl, by rw [ht]; exact hP, hD⟩, hS.F ht⟩) hS.2.2 hdg hlocks
  generalize MQ below (Qi0 G A r (wX6 G ad ado fz ++ (wX0 G (ado 1) fnowz ++ (wX0 G (ado 2) ftrialz ++ (wX2 G (ado 11) fsheet0 ++ (wX2 G (ado 12) fsheet1 ++ (wX2 G (ado 13) fsheet2 ++ (wX2 G (ado 14) fsheet3)))))))) args s 0 0 A = Q at hRet ⊢
  have lk12 := hts (.fieldLink RX6 12 "FeatherShares" "now" "LFeatherShares$Flock;") (by decide +kernel)
  have inX6 : ∀ w ∈ u_ws RX6 TX6 11, w ∈ wsX6_read := by decide +kernel
  have lk16 := hts (.fieldLink RX6 16 "FeatherShares" "trial" "LFeatherShares$Flock;") (by decide +kernel)
  have lk65 := hts (.fieldLink RX6 65 "FeatherShares" "faultOfRead" "I") (by decide +kernel)
  have lk61 := hts (.fieldLink RX6 61 "FeatherShares" "sheets" "[LFeatherShares$Sheet;") (by decide +kernel)
  have hl : lv_has ls 10 [(0, .ref (ad 0)), (1, .int x1), (2, .int x2), (3, .int x3), (4, .int x4)] := hl
  have hK0 : (r, fz, fnowz, ftrialz) = (r, fz, fnowz, ftrialz) := rfl
  have hB119 : ∀ (f : Mem) (fnow : Mem) (ftrial : Mem) (fsheet0 : Mem) (fsheet1 : Mem) (fsheet2 : Mem) (fsheet3 : Mem) (x6 : Int32) (x7 : Int32) (res : Int32 × Mem × Mem × Mem) (hf : p_X6_read_B119 f fnow ftrial fsheet0 fsheet1 fsheet2 fsheet3 x6 x7 = some res) (hK : res = (r, fz, fnowz, ftrialz)), ∀ (H : Heap) (locs : List Loc) (ls : Array Slot), va_P G.1 vwCl (wX6 G ad ado f ++ (wX0 G (ado 1) fnow ++ (wX0 G (ado 2) ftrial ++ (wX2 G (ado 11) fsheet0 ++ (wX2 G (ado 12) fsheet1 ++ (wX2 G (ado 13) fsheet2 ++ (wX2 G (ado 14) fsheet3))))))) H → va_D A (wX6 G ad ado f ++ (wX0 G (ado 1) fnow ++ (wX0 G (ado 2) ftrial ++ (wX2 G (ado 11) fsheet0 ++ (wX2 G (ado 12) fsheet1 ++ (wX2 G (ado 13) fsheet2 ++ (wX2 G (ado 14) fsheet3))))))) → va_S A s.heap H locs → lv_has ls 10 [(0, .ref (ad 0)), (6, .int x6), (7, .int x7)] → W p l e ({ frames := 6, cells := 0, slots := 0, locals := 129 }) s m args below meth c H locs 0 0 Q (F0 m 119 ls []) := by
    intro f fnow ftrial fsheet0 fsheet1 fsheet2 fsheet3 x6 x7 res hf hK H locs ls hP hD hS hl
    unfold p_X6_read_B119 at hf
    refine lv_aload_n hx hb dX6_read_119 rfl (lv_at hl 0 rfl) ?_
    refine va_get (C := RX6) (T := TX6) (N := 11) (ci := 6) (v := .ref ((ado 1) 0)) hx hb hts inX6 hown hT hP 0 rfl rfl 0 (Nat.le_of_ble_eq_true rfl) lk12 (fun _ h => h) rfl dX6_read_120 ?_
    refine lv_aload_n hx hb dX6_read_123 rfl (lv_at hl 0 rfl) ?_
    refine va_get (C := RX6) (T := TX6) (N := 11) (ci := 6) (v := .ref ((ado 2) 0)) hx hb hts inX6 hown hT hP 0 rfl rfl 1 (Nat.le_of_ble_eq_true rfl) lk16 (fun _ h => h) rfl dX6_read_124 ?_
    obtain ⟨fnow_127, hc127, hf⟩ := bd_e hf
    refine cl_v_up (Wd := (wX6 G ad ado f ++ (wX0 G (ado 1) fnow ++ (wX0 G (ado 2) ftrial ++ (wX2 G (ado 11) fsheet0 ++ (wX2 G (ado 12) fsheet1 ++ (wX2 G (ado 13) fsheet2 ++ (wX2 G (ado 14) fsheet3)))))))) (Wc := (wX0 G (ado 1) fnow ++ (wX0 G (ado 2) ftrial))) (W' := (wX0 G (ado 1) fnow_127 ++ (wX0 G (ado 2) ftrial))) (W2 := (wX6 G ad ado f ++ (wX0 G (ado 1) fnow_127 ++ (wX0 G (ado 2) ftrial ++ (wX2 G (ado 11) fsheet0 ++ (wX2 G (ado 12) fsheet1 ++ (wX2 G (ado 13) fsheet2 ++ (wX2 G (ado 14) fsheet3)))))))) [4, 5, 6, 7, 8, 9, 10, 11, 12, 13, 14, 15, 16, 17, 18, 19, 20, 21, 22, 23, 24, 25] [0, 1, 2, 3, 26, 27, 28, 29, 30, 31, 32, 33] rfl rfl rfl rfl rfl (va_runVN (As := [.ref ((ado 2) 0)]) (rest := []) hC (c_X0_copyFrom l G (ado 1) (ado 2) fnow ftrial fnow_127 hc127 _) ⟨va_cnB 1 hts gX6_read_X0_copyFrom_n93 rfl rfl rfl (hE.2.2 (RX6, 93, yX0_copyFrom, "FeatherShares") (List.mem_of_getElem? (i := 8) rfl)) (hts (.initialized RX0) (by decide +kernel)) (by decide +kernel) ⟨Nat.le_of_ble_eq_true rfl, Nat.le_of_ble_eq_true rfl⟩, hts (.instanceMethod yX0_copyFrom) (by decide +kernel), hts (.selects RX0 yX0_copyFrom yX0_copyFrom) (by decide +kernel)⟩ ⟨Pc0_blind, va_recv hT hP (q0 := 4) (ci := 0) rfl rfl, fun U hU hW => Pc0_at (Wd := (wX0 G (ado 1) fnow ++ (wX0 G (ado 2) ftrial))) hE (hP.subm [4, 5, 6, 7, 8, 9, 10, 11, 12, 13, 14, 15, 16, 17, 18, 19, 20, 21, 22, 23, 24, 25] rfl) (hD.sub [4, 5, 6, 7, 8, 9, 10, 11, 12, 13, 14, 15, 16, 17, 18, 19, 20, 21, 22, 23, 24, 25] (by decide) rfl) hU hW⟩ rfl rfl hl.1 rfl (lv_room (Nat.le_of_ble_eq_true rfl)) dX6_read_127 ⟨Nat.zero_le _, Nat.zero_le _⟩) hS hA hP hD (fun H locs hP hD hS => ?_)
    refine lv_aload_n hx hb dX6_read_130 rfl (lv_at hl 0 rfl) ?_
    refine lv_iload hx hb dX6_read_131 (lv_at hl 1 rfl) ?_
    refine va_put (C := RX6) (T := TX6) (N := 11) (ci := 6) (ty := .int) (v := .int x6) hx hb hts inX6 tyX6 tyX6_ok nmX6 hown hT hP hD hS 0 rfl rfl 10 (Nat.le_of_ble_eq_true rfl) lk65 (fun _ h => h) rfl (by decide +kernel) rfl rfl (Nat.le_of_ble_eq_true rfl) dX6_read_133 (fun H locs hP hD hS => ?_)
    have hP : va_P G.1 vwCl (wX6 G ad ado (mset 0 1 x6 f) ++ (wX0 G (ado 1) fnow_127 ++ (wX0 G (ado 2) ftrial ++ (wX2 G (ado 11) fsheet0 ++ (wX2 G (ado 12) fsheet1 ++ (wX2 G (ado 13) fsheet2 ++ (wX2 G (ado 14) fsheet3))))))) H := hP
    have hD : va_D A (wX6 G ad ado (mset 0 1 x6 f) ++ (wX0 G (ado 1) fnow_127 ++ (wX0 G (ado 2) ftrial ++ (wX2 G (ado 11) fsheet0 ++ (wX2 G (ado 12) fsheet1 ++ (wX2 G (ado 13) fsheet2 ++ (wX2 G (ado 14) fsheet3))))))) := hD
    refine lv_iload hx hb dX6_read_136 (lv_at hl 2 rfl) ?_
    have hK9 := K0_of hf hK
    exact hRet x7 (mset 0 1 x6 f) fnow_127 ftrial _ _ _ _ hK9 dX6_read_138 hP hD hS
  obtain ⟨res, hres, hK⟩ : ∃ res, p_X6_read f fnow ftrial fsheet0 fsheet1 fsheet2 fsheet3 x1 x2 x3 x4 = some res ∧ res = (r, fz, fnowz, ftrialz) := ⟨_, hf, rfl⟩
  clear hf
  have hf := hres
  clear hres
  unfold p_X6_read at hf
  refine lv_iload_n hx hb dX6_read_0 rfl (lv_at hl 1 rfl) ?_
  obtain ⟨r1, hc1, hf⟩ := bd_e hf
  refine cl_z_ro (Wd := (wX6 G ad ado f ++ (wX0 G (ado 1) fnow ++ (wX0 G (ado 2) ftrial ++ (wX2 G (ado 11) fsheet0 ++ (wX2 G (ado 12) fsheet1 ++ (wX2 G (ado 13) fsheet2 ++ (wX2 G (ado 14) fsheet3)))))))) (Wc := ([] : va_W)) [] rfl (va_runS (As := [.int x1]) (rest := []) hC (c_X6_isSheet l G x1 r1 hc1 _) (va_cwS 1 hts gX6_read_X6_isSheet rfl rfl rfl (by decide +kernel) ⟨Nat.le_of_ble_eq_true rfl, Nat.le_of_ble_eq_true rfl⟩) ⟨Pc0_blind, fun U hU hW => Pc0_at (Wd := ([] : va_W)) hE (hP.subm [] rfl) (hD.sub [] (by decide) rfl) hU hW⟩ rfl rfl hl.1 rfl (lv_room (Nat.le_of_ble_eq_true rfl)) dX6_read_1 ⟨Nat.zero_le _, Nat.zero_le _⟩) hS hA hP hD (fun H locs hn1 hP hD hS => ?_)
  refine lv_if_eq (tgt := 25) hx hb dX6_read_4 (by decide) (fun hc => ?_) (fun hc => ?_)
  · have hf := if_t hf hc
    refine lv_iconst (v := (-1 : Int32)) hx hb dX6_read_25 (ic_m1) ?_
    have hK9 := K0_of hf hK
    exact hRet (-1 : Int32) f fnow ftrial _ _ _ _ hK9 dX6_read_26 hP hD hS
  · have hf := if_f hf hc
    refine lv_iload_n hx hb dX6_read_7 rfl (lv_at hl 2 rfl) ?_
    obtain ⟨r8, hc8, hf⟩ := bd_e hf
    refine cl_z_ro (Wd := (wX6 G ad ado f ++ (wX0 G (ado 1) fnow ++ (wX0 G (ado 2) ftrial ++ (wX2 G (ado 11) fsheet0 ++ (wX2 G (ado 12) fsheet1 ++ (wX2 G (ado 13) fsheet2 ++ (wX2 G (ado 14) fsheet3)))))))) (Wc := ([] : va_W)) [] rfl (va_runS (As := [.int x2]) (rest := []) hC (c_X6_isLane l G x2 r8 hc8 _) (va_cwS 1 hts gX6_read_X6_isLane rfl rfl rfl (by decide +kernel) ⟨Nat.le_of_ble_eq_true rfl, Nat.le_of_ble_eq_true rfl⟩) ⟨Pc0_blind, fun U hU hW => Pc0_at (Wd := ([] : va_W)) hE (hP.subm [] rfl) (hD.sub [] (by decide) rfl) hU hW⟩ rfl rfl hl.1 rfl (lv_room (Nat.le_of_ble_eq_true rfl)) dX6_read_8 ⟨Nat.zero_le _, Nat.zero_le _⟩) hS hA hP hD (fun H locs hn8 hP hD hS => ?_)
    refine lv_if_eq (tgt := 25) hx hb dX6_read_11 (by decide) (fun hc => ?_) (fun hc => ?_)
    · have hf := if_t hf hc
      refine lv_iconst (v := (-1 : Int32)) hx hb dX6_read_25 (ic_m1) ?_
      have hK9 := K0_of hf hK
      exact hRet (-1 : Int32) f fnow ftrial _ _ _ _ hK9 dX6_read_26 hP hD hS
    · have hf := if_f hf hc
      refine lv_iload hx hb dX6_read_14 (lv_at hl 4 rfl) ?_
      refine lv_iconst (v := (nI 0)) hx hb dX6_read_16 (ic_0) ?_
      refine lv_bipush (v := (nI 10)) hx hb dX6_read_17 (bi_10) ?_
      obtain ⟨r19, hc19, hf⟩ := bd_e hf
      refine cl_z_ro (Wd := (wX6 G ad ado f ++ (wX0 G (ado 1) fnow ++ (wX0 G (ado 2) ftrial ++ (wX2 G (ado 11) fsheet0 ++ (wX2 G (ado 12) fsheet1 ++ (wX2 G (ado 13) fsheet2 ++ (wX2 G (ado 14) fsheet3)))))))) (Wc := ([] : va_W)) [] rfl (va_runS (As := [.int x4, .int (nI 0), .int (nI 10)]) (rest := []) hC (c_X6_isWithin l G x4 (nI 0) (nI 10) r19 hc19 _) (va_cwS 3 hts gX6_read_X6_isWithin rfl rfl rfl (by decide +kernel) ⟨Nat.le_of_ble_eq_true rfl, Nat.le_of_ble_eq_true rfl⟩) ⟨Pc0_blind, fun U hU hW => Pc0_at (Wd := ([] : va_W)) hE (hP.subm [] rfl) (hD.sub [] (by decide) rfl) hU hW⟩ rfl rfl hl.1 rfl (lv_room (Nat.le_of_ble_eq_true rfl)) dX6_read_19 ⟨Nat.zero_le _, Nat.zero_le _⟩) hS hA hP hD (fun H locs hn19 hP hD hS => ?_)
      refine lv_if_ne (tgt := 27) hx hb dX6_read_22 (by decide) (fun hc => ?_) (fun hc => ?_)
      · have hf := if_f hf hc
        refine lv_aload_n hx hb dX6_read_27 rfl (lv_at hl 0 rfl) ?_
        refine va_get (C := RX6) (T := TX6) (N := 11) (ci := 6) (v := .ref (ad 3)) hx hb hts inX6 hown hT hP 0 rfl rfl 9 (Nat.le_of_ble_eq_true rfl) lk61 (fun _ h => h) rfl dX6_read_28 ?_
        refine lv_iload_n hx hb dX6_read_31 rfl (lv_at hl 1 rfl) ?_
        by_cases hc32 : x1 = nI 0
        · rw [if_pos hc32] at hf
          refine va_aldq hx hb hT hP 3 3 rfl rfl (by rw [hc32]; exact vp_in_nI (by decide) (by decide)) dX6_read_32 ?_
          refine W.eq (g2 := F0 m 33 ls []) (by rw [hc32]; rfl) ?_
          refine lv_astore (lv' := [(5, .ref ((ado 11) 0)), (0, .ref (ad 0)), (1, .int x1), (2, .int x2), (3, .int x3), (4, .int x4)]) hx hb dX6_read_33 hl (by decide) rfl (fun ls hl => ?_)
          refine lv_aload_n hx hb dX6_read_35 rfl (lv_at hl 1 rfl) ?_
          refine va_get (C := RX6) (T := TX6) (N := 11) (ci := 6) (v := .ref ((ado 2) 0)) hx hb hts inX6 hown hT hP 0 rfl rfl 1 (Nat.le_of_ble_eq_true rfl) lk16 (fun _ h => h) rfl dX6_read_36 ?_
          refine lv_aload_n hx hb dX6_read_39 rfl (lv_at hl 1 rfl) ?_
          refine va_get (C := RX6) (T := TX6) (N := 11) (ci := 6) (v := .ref ((ado 1) 0)) hx hb hts inX6 hown hT hP 0 rfl rfl 0 (Nat.le_of_ble_eq_true rfl) lk12 (fun _ h => h) rfl dX6_read_40 ?_
          obtain ⟨ftrial_43, hc43, hf⟩ := bd_e hf
          refine cl_v_up (Wd := (wX6 G ad ado f ++ (wX0 G (ado 1) fnow ++ (wX0 G (ado 2) ftrial ++ (wX2 G (ado 11) fsheet0 ++ (wX2 G (ado 12) fsheet1 ++ (wX2 G (ado 13) fsheet2 ++ (wX2 G (ado 14) fsheet3)))))))) (Wc := (wX0 G (ado 2) ftrial ++ (wX0 G (ado 1) fnow))) (W' := (wX0 G (ado 2) ftrial_43 ++ (wX0 G (ado 1) fnow))) (W2 := (wX6 G ad ado f ++ (wX0 G (ado 1) fnow ++ (wX0 G (ado 2) ftrial_43 ++ (wX2 G (ado 11) fsheet0 ++ (wX2 G (ado 12) fsheet1 ++ (wX2 G (ado 13) fsheet2 ++ (wX2 G (ado 14) fsheet3)))))))) [15, 16, 17, 18, 19, 20, 21, 22, 23, 24, 25, 4, 5, 6, 7, 8, 9, 10, 11, 12, 13, 14] [0, 1, 2, 3, 26, 27, 28, 29, 30, 31, 32, 33] rfl rfl rfl rfl rfl (va_runVN (As := [.ref ((ado 1) 0)]) (rest := []) hC (c_X0_copyFrom l G (ado 2) (ado 1) ftrial fnow ftrial_43 hc43 _) ⟨va_cnB 1 hts gX6_read_X0_copyFrom_n93 rfl rfl rfl (hE.2.2 (RX6, 93, yX0_copyFrom, "FeatherShares") (List.mem_of_getElem? (i := 8) rfl)) (hts (.initialized RX0) (by decide +kernel)) (by decide +kernel) ⟨Nat.le_of_ble_eq_true rfl, Nat.le_of_ble_eq_true rfl⟩, hts (.instanceMethod yX0_copyFrom) (by decide +kernel), hts (.selects RX0 yX0_copyFrom yX0_copyFrom) (by decide +kernel)⟩ ⟨Pc0_blind, va_recv hT hP (q0 := 15) (ci := 0) rfl rfl, fun U hU hW => Pc0_at (Wd := (wX0 G (ado 2) ftrial ++ (wX0 G (ado 1) fnow))) hE (hP.subm [15, 16, 17, 18, 19, 20, 21, 22, 23, 24, 25, 4, 5, 6, 7, 8, 9, 10, 11, 12, 13, 14] rfl) (hD.sub [15, 16, 17, 18, 19, 20, 21, 22, 23, 24, 25, 4, 5, 6, 7, 8, 9, 10, 11, 12, 13, 14] (by decide) rfl) hU hW⟩ rfl rfl hl.1 rfl (lv_room (Nat.le_of_ble_eq_true rfl)) dX6_read_43 ⟨Nat.zero_le _, Nat.zero_le _⟩) hS hA hP hD (fun H locs hP hD hS => ?_)
          refine lv_iconst (v := (nI 0)) hx hb dX6_read_46 (ic_0) ?_
          refine lv_istore (lv' := [(6, .int (nI 0)), (5, .ref ((ado 11) 0)), (0, .ref (ad 0)), (1, .int x1), (2, .int x2), (3, .int x3), (4, .int x4)]) hx hb dX6_read_47 hl (by decide) rfl (fun ls hl => ?_)
          refine lv_iconst (v := (nI 0)) hx hb dX6_read_49 (ic_0) ?_
          refine lv_istore (lv' := [(7, .int (nI 0)), (6, .int (nI 0)), (5, .ref ((ado 11) 0)), (0, .ref (ad 0)), (1, .int x1), (2, .int x2), (3, .int x3), (4, .int x4)]) hx hb dX6_read_50 hl (by decide) rfl (fun ls hl => ?_)
          refine lv_iconst (v := (nI 0)) hx hb dX6_read_52 (ic_0) ?_
          refine lv_istore (lv' := [(8, .int (nI 0)), (7, .int (nI 0)), (6, .int (nI 0)), (5, .ref ((ado 11) 0)), (0, .ref (ad 0)), (1, .int x1), (2, .int x2), (3, .int x3), (4, .int x4)]) hx hb dX6_read_53 hl (by decide) rfl (fun ls hl => ?_)
          obtain ⟨ze, hlp, hf⟩ := bd_e hf
          refine lp_W2 (p_X6_read_L55_0 f fnow fsheet0 fsheet1 fsheet2 fsheet3 x2 x3 x4) (fun z => match z with | (x6, x7, x8, ftrial_) => ∀ (H : Heap) (locs : List Loc) (ls : Array Slot), va_P G.1 vwCl (wX6 G ad ado f ++ (wX0 G (ado 1) fnow ++ (wX0 G (ado 2) ftrial_ ++ (wX2 G (ado 11) fsheet0 ++ (wX2 G (ado 12) fsheet1 ++ (wX2 G (ado 13) fsheet2 ++ (wX2 G (ado 14) fsheet3))))))) H → va_D A (wX6 G ad ado f ++ (wX0 G (ado 1) fnow ++ (wX0 G (ado 2) ftrial_ ++ (wX2 G (ado 11) fsheet0 ++ (wX2 G (ado 12) fsheet1 ++ (wX2 G (ado 13) fsheet2 ++ (wX2 G (ado 14) fsheet3))))))) → va_S A s.heap H locs → lv_has ls 10 [(0, .ref (ad 0)), (2, .int x2), (3, .int x3), (4, .int x4), (5, .ref ((ado 11) 0)), (6, .int x6), (7, .int x7), (8, .int x8)] → W p l e ({ frames := 6, cells := 0, slots := 0, locals := 129 }) s m args below meth c H locs 0 0 Q (F0 m 55 ls [])) (fun z => match z with | (y6_55, y7_55, ftrial_55) => ∀ (H : Heap) (locs : List Loc) (ls : Array Slot), va_P G.1 vwCl (wX6 G ad ado f ++ (wX0 G (ado 1) fnow ++ (wX0 G (ado 2) ftrial_55 ++ (wX2 G (ado 11) fsheet0 ++ (wX2 G (ado 12) fsheet1 ++ (wX2 G (ado 13) fsheet2 ++ (wX2 G (ado 14) fsheet3))))))) H → va_D A (wX6 G ad ado f ++ (wX0 G (ado 1) fnow ++ (wX0 G (ado 2) ftrial_55 ++ (wX2 G (ado 11) fsheet0 ++ (wX2 G (ado 12) fsheet1 ++ (wX2 G (ado 13) fsheet2 ++ (wX2 G (ado 14) fsheet3))))))) → va_S A s.heap H locs → lv_has ls 10 [(0, .ref (ad 0)), (6, .int y6_55), (7, .int y7_55)] → W p l e ({ frames := 6, cells := 0, slots := 0, locals := 129 }) s m args below meth c H locs 0 0 Q (F0 m 119 ls [])) (fun z => z = (r, fz, fnowz, ftrialz)) ?_ hlp ?_ _ _ _ hP hD hS (lv_sub hl [4, 6, 7, 8, 3, 2, 1, 0] rfl)
          · clear hlp hf hK hP hD hS hl
            intro K55 hW55 hX55 hO55
            rintro ⟨x6, x7, x8, ftrial_⟩ res hf hK H locs ls hP hD hS hl
            unfold p_X6_read_L55_0 at hf
            dsimp only at hf
            refine lv_iload hx hb dX6_read_55 (lv_at hl 7 rfl) ?_
            refine lv_iload hx hb dX6_read_57 (lv_at hl 3 rfl) ?_
            refine lv_icmp_ge (tgt := 119) hx hb dX6_read_59 (by decide) (fun hc => ?_) (fun hc => ?_)
            · have hf := if_t hf hc
              have hK9 := K_of hf hK
              have hK9 := hX55 _ hK9
              exact hK9 _ _ _ hP hD hS (lv_sub hl [0, 5, 6] rfl)
            · have hf := if_f hf hc
              refine lv_iload hx hb dX6_read_62 (lv_at hl 5 rfl) ?_
              refine lv_if_ne (tgt := 119) hx hb dX6_read_64 (by decide) (fun hc => ?_) (fun hc => ?_)
              · have hf := if_f hf hc
                have hK9 := K_of hf hK
                have hK9 := hX55 _ hK9
                exact hK9 _ _ _ hP hD hS (lv_sub hl [0, 5, 6] rfl)
              · have hf := if_t hf hc
                refine lv_iload_n hx hb dX6_read_67 rfl (lv_at hl 2 rfl) ?_
                refine lv_iconst (v := (nI 4)) hx hb dX6_read_68 (ic_4) ?_
                refine lv_iload hx hb dX6_read_69 (lv_at hl 7 rfl) ?_
                refine lv_imul hx hb dX6_read_71 ?_
                refine lv_iadd hx hb dX6_read_72 ?_
                refine lv_istore (lv' := [(9, .int (x3 + ((nI 4) * x8))), (0, .ref (ad 0)), (2, .int x2), (3, .int x3), (4, .int x4), (5, .ref ((ado 11) 0)), (6, .int x6), (7, .int x7), (8, .int x8)]) hx hb dX6_read_73 hl (by decide) rfl (fun ls hl => ?_)
                refine lv_aload hx hb dX6_read_75 (lv_at hl 5 rfl) ?_
                refine lv_iload_n hx hb dX6_read_77 rfl (lv_at hl 2 rfl) ?_
                refine lv_iload hx hb dX6_read_78 (lv_at hl 0 rfl) ?_
                obtain ⟨r80, hc80, hf⟩ := bd_e hf
                refine cl_i_ro (Wd := (wX6 G ad ado f ++ (wX0 G (ado 1) fnow ++ (wX0 G (ado 2) ftrial_ ++ (wX2 G (ado 11) fsheet0 ++ (wX2 G (ado 12) fsheet1 ++ (wX2 G (ado 13) fsheet2 ++ (wX2 G (ado 14) fsheet3)))))))) (Wc := (wX2 G (ado 11) fsheet0)) [26, 27] rfl (va_runVN (As := [.int x2, .int (x3 + ((nI 4) * x8))]) (rest := []) hC (c_X2_faultOfTrade l G (ado 11) fsheet0 x2 (x3 + ((nI 4) * x8)) r80 hc80 _) ⟨va_cnB 2 hts gX6_read_X2_faultOfTrade_n303 rfl rfl rfl (hE.2.2 (RX6, 303, yX2_faultOfTrade, "FeatherShares") (List.mem_of_getElem? (i := 35) rfl)) (hts (.initialized RX2) (by decide +kernel)) (by decide +kernel) ⟨Nat.le_of_ble_eq_true rfl, Nat.le_of_ble_eq_true rfl⟩, hts (.instanceMethod yX2_faultOfTrade) (by decide +kernel), hts (.selects RX2 yX2_faultOfTrade yX2_faultOfTrade) (by decide +kernel)⟩ ⟨Pc0_blind, va_recv hT hP (q0 := 26) (ci := 2) rfl rfl, fun U hU hW => Pc0_at (Wd := (wX2 G (ado 11) fsheet0)) hE (hP.subm [26, 27] rfl) (hD.sub [26, 27] (by decide) rfl) hU hW⟩ rfl rfl hl.1 rfl (lv_room (Nat.le_of_ble_eq_true rfl)) dX6_read_80 ⟨Nat.zero_le _, Nat.zero_le _⟩) hS hA hP hD (fun H locs hP hD hS => ?_)
                refine lv_istore (lv' := [(6, .int r80), (9, .int (x3 + ((nI 4) * x8))), (0, .ref (ad 0)), (2, .int x2), (3, .int x3), (4, .int x4), (5, .ref ((ado 11) 0)), (7, .int x7), (8, .int x8)]) hx hb dX6_read_83 hl (by decide) rfl (fun ls hl => ?_)
                refine lv_iload hx hb dX6_read_85 (lv_at hl 0 rfl) ?_
                refine lv_if_ne (tgt := 113) hx hb dX6_read_87 (by decide) (fun hc => ?_) (fun hc => ?_)
                · have hf := if_f hf hc
                  refine lv_iinc (v := (x8 + nI 1)) (lv' := [(8, .int (x8 + nI 1)), (6, .int r80), (9, .int (x3 + ((nI 4) * x8))), (0, .ref (ad 0)), (2, .int x2), (3, .int x3), (4, .int x4), (5, .ref ((ado 11) 0)), (7, .int x7)]) hx hb dX6_read_113 hl (k := 8) rfl (ii_x 1 _) (by decide) rfl (fun ls hl => ?_)
                  refine lv_goto (tgt := 55) hx hb dX6_read_116 (by decide) ?_
                  have hK9 := K_of hf hK
                  have hK9 := hW55 _ hK9
                  exact hK9 _ _ _ hP hD hS (lv_sub hl [3, 4, 5, 6, 7, 1, 8, 0] rfl)
                · have hf := if_t hf hc
                  refine lv_aload hx hb dX6_read_90 (lv_at hl 6 rfl) ?_
                  refine lv_iload hx hb dX6_read_92 (lv_at hl 1 rfl) ?_
                  refine lv_aload_n hx hb dX6_read_94 rfl (lv_at hl 2 rfl) ?_
                  refine va_get (C := RX6) (T := TX6) (N := 11) (ci := 6) (v := .ref ((ado 2) 0)) hx hb hts inX6 hown hT hP 0 rfl rfl 1 (Nat.le_of_ble_eq_true rfl) lk16 (fun _ h => h) rfl dX6_read_95 ?_
                  obtain ⟨⟨r98, ftrial_98⟩, hc98, hf⟩ := bd_e hf
                  try dsimp only at hf
                  refine cl_z_up (Wd := (wX6 G ad ado f ++ (wX0 G (ado 1) fnow ++ (wX0 G (ado 2) ftrial_ ++ (wX2 G (ado 11) fsheet0 ++ (wX2 G (ado 12) fsheet1 ++ (wX2 G (ado 13) fsheet2 ++ (wX2 G (ado 14) fsheet3)))))))) (Wc := (wX2 G (ado 11) fsheet0 ++ (wX0 G (ado 2) ftrial_))) (W' := (wX2 G (ado 11) fsheet0 ++ (wX0 G (ado 2) ftrial_98))) (W2 := (wX6 G ad ado f ++ (wX0 G (ado 1) fnow ++ (wX0 G (ado 2) ftrial_98 ++ (wX2 G (ado 11) fsheet0 ++ (wX2 G (ado 12) fsheet1 ++ (wX2 G (ado 13) fsheet2 ++ (wX2 G (ado 14) fsheet3)))))))) [26, 27, 15, 16, 17, 18, 19, 20, 21, 22, 23, 24, 25] [0, 1, 2, 3, 4, 5, 6, 7, 8, 9, 10, 11, 12, 13, 14, 28, 29, 30, 31, 32, 33] rfl rfl rfl rfl rfl (va_runVN (As := [.int (x3 + ((nI 4) * x8)), .ref ((ado 2) 0)]) (rest := []) hC (c_X2_tradeOn l G (ado 11) (ado 2) fsheet0 ftrial_ (x3 + ((nI 4) * x8)) r98 ftrial_98 hc98 _) ⟨va_cnB 2 hts gX6_read_X2_tradeOn_n306 rfl rfl rfl (hE.2.2 (RX6, 306, yX2_tradeOn, "FeatherShares") (List.mem_of_getElem? (i := 36) rfl)) (hts (.initialized RX2) (by decide +kernel)) (by decide +kernel) ⟨Nat.le_of_ble_eq_true rfl, Nat.le_of_ble_eq_true rfl⟩, hts (.instanceMethod yX2_tradeOn) (by decide +kernel), hts (.selects RX2 yX2_tradeOn yX2_tradeOn) (by decide +kernel)⟩ ⟨Pc0_blind, va_recv hT hP (q0 := 26) (ci := 2) rfl rfl, fun U hU hW => Pc0_at (Wd := (wX2 G (ado 11) fsheet0 ++ (wX0 G (ado 2) ftrial_))) hE (hP.subm [26, 27, 15, 16, 17, 18, 19, 20, 21, 22, 23, 24, 25] rfl) (hD.sub [26, 27, 15, 16, 17, 18, 19, 20, 21, 22, 23, 24, 25] (by decide) rfl) hU hW⟩ rfl rfl hl.1 rfl (lv_room (Nat.le_of_ble_eq_true rfl)) dX6_read_98 ⟨Nat.zero_le _, Nat.zero_le _⟩) hS hA hP hD (fun H locs hn98 hP hD hS => ?_)
                  refine lv_if_ne (tgt := 110) hx hb dX6_read_101 (by decide) (fun hc => ?_) (fun hc => ?_)
                  · have hf := if_f hf hc
                    refine lv_iinc (v := (x7 + nI 1)) (lv' := [(7, .int (x7 + nI 1)), (6, .int r80), (9, .int (x3 + ((nI 4) * x8))), (0, .ref (ad 0)), (2, .int x2), (3, .int x3), (4, .int x4), (5, .ref ((ado 11) 0)), (8, .int x8)]) hx hb dX6_read_110 hl (k := 7) rfl (ii_x 1 _) (by decide) rfl (fun ls hl => ?_)
                    refine lv_iinc (v := (x8 + nI 1)) (lv' := [(8, .int (x8 + nI 1)), (7, .int (x7 + nI 1)), (6, .int r80), (9, .int (x3 + ((nI 4) * x8))), (0, .ref (ad 0)), (2, .int x2), (3, .int x3), (4, .int x4), (5, .ref ((ado 11) 0))]) hx hb dX6_read_113 hl (k := 8) rfl (ii_x 1 _) (by decide) rfl (fun ls hl => ?_)
                    refine lv_goto (tgt := 55) hx hb dX6_read_116 (by decide) ?_
                    have hK9 := K_of hf hK
                    have hK9 := hW55 _ hK9
                    exact hK9 _ _ _ hP hD hS (lv_sub hl [4, 5, 6, 7, 8, 2, 1, 0] rfl)
                  · have hf := if_t hf hc
                    refine lv_bipush (v := (-20 : Int32)) hx hb dX6_read_104 (bi_m20) ?_
                    refine lv_iload hx hb dX6_read_106 (lv_at hl 8 rfl) ?_
                    refine lv_isub hx hb dX6_read_108 ?_
                    have hK9 := K_of hf hK
                    have hK9 := hO55 _ hK9
                    exact hRet ((-20 : Int32) - x8) f fnow ftrial_98 _ _ _ _ hK9 dX6_read_109 hP hD hS
          · rcases ze with ⟨y6_55, y7_55, ftrial_55⟩ | zo
            · try simp only [Sum.elim_inl] at hf
              try dsimp only at hf
              show ∀ (H : Heap) (locs : List Loc) (ls : Array Slot), va_P G.1 vwCl (wX6 G ad ado f ++ (wX0 G (ado 1) fnow ++ (wX0 G (ado 2) ftrial_55 ++ (wX2 G (ado 11) fsheet0 ++ (wX2 G (ado 12) fsheet1 ++ (wX2 G (ado 13) fsheet2 ++ (wX2 G (ado 14) fsheet3))))))) H → va_D A (wX6 G ad ado f ++ (wX0 G (ado 1) fnow ++ (wX0 G (ado 2) ftrial_55 ++ (wX2 G (ado 11) fsheet0 ++ (wX2 G (ado 12) fsheet1 ++ (wX2 G (ado 13) fsheet2 ++ (wX2 G (ado 14) fsheet3))))))) → va_S A s.heap H locs → lv_has ls 10 [(0, .ref (ad 0)), (6, .int y6_55), (7, .int y7_55)] → W p l e ({ frames := 6, cells := 0, slots := 0, locals := 129 }) s m args below meth c H locs 0 0 Q (F0 m 119 ls [])
              intro H locs ls hP hD hS hl
              exact hB119 f fnow ftrial_55 fsheet0 fsheet1 fsheet2 fsheet3 y6_55 y7_55 _ hf hK _ _ _ hP hD hS (lv_sub hl [0, 1, 2] rfl)
            · have hK9 := K0_of (show some zo = some _ from hf) hK
              exact hK9
        rw [if_neg hc32] at hf
        by_cases hc32 : x1 = nI 1
        · rw [if_pos hc32] at hf
          refine va_aldq hx hb hT hP 3 3 rfl rfl (by rw [hc32]; exact vp_in_nI (by decide) (by decide)) dX6_read_32 ?_
          refine W.eq (g2 := F0 m 33 ls []) (by rw [hc32]; rfl) ?_
          refine lv_astore (lv' := [(5, .ref ((ado 12) 0)), (0, .ref (ad 0)), (1, .int x1), (2, .int x2), (3, .int x3), (4, .int x4)]) hx hb dX6_read_33 hl (by decide) rfl (fun ls hl => ?_)
          refine lv_aload_n hx hb dX6_read_35 rfl (lv_at hl 1 rfl) ?_
          refine va_get (C := RX6) (T := TX6) (N := 11) (ci := 6) (v := .ref ((ado 2) 0)) hx hb hts inX6 hown hT hP 0 rfl rfl 1 (Nat.le_of_ble_eq_true rfl) lk16 (fun _ h => h) rfl dX6_read_36 ?_
          refine lv_aload_n hx hb dX6_read_39 rfl (lv_at hl 1 rfl) ?_
          refine va_get (C := RX6) (T := TX6) (N := 11) (ci := 6) (v := .ref ((ado 1) 0)) hx hb hts inX6 hown hT hP 0 rfl rfl 0 (Nat.le_of_ble_eq_true rfl) lk12 (fun _ h => h) rfl dX6_read_40 ?_
          obtain ⟨ftrial_43, hc43, hf⟩ := bd_e hf
          refine cl_v_up (Wd := (wX6 G ad ado f ++ (wX0 G (ado 1) fnow ++ (wX0 G (ado 2) ftrial ++ (wX2 G (ado 11) fsheet0 ++ (wX2 G (ado 12) fsheet1 ++ (wX2 G (ado 13) fsheet2 ++ (wX2 G (ado 14) fsheet3)))))))) (Wc := (wX0 G (ado 2) ftrial ++ (wX0 G (ado 1) fnow))) (W' := (wX0 G (ado 2) ftrial_43 ++ (wX0 G (ado 1) fnow))) (W2 := (wX6 G ad ado f ++ (wX0 G (ado 1) fnow ++ (wX0 G (ado 2) ftrial_43 ++ (wX2 G (ado 11) fsheet0 ++ (wX2 G (ado 12) fsheet1 ++ (wX2 G (ado 13) fsheet2 ++ (wX2 G (ado 14) fsheet3)))))))) [15, 16, 17, 18, 19, 20, 21, 22, 23, 24, 25, 4, 5, 6, 7, 8, 9, 10, 11, 12, 13, 14] [0, 1, 2, 3, 26, 27, 28, 29, 30, 31, 32, 33] rfl rfl rfl rfl rfl (va_runVN (As := [.ref ((ado 1) 0)]) (rest := []) hC (c_X0_copyFrom l G (ado 2) (ado 1) ftrial fnow ftrial_43 hc43 _) ⟨va_cnB 1 hts gX6_read_X0_copyFrom_n93 rfl rfl rfl (hE.2.2 (RX6, 93, yX0_copyFrom, "FeatherShares") (List.mem_of_getElem? (i := 8) rfl)) (hts (.initialized RX0) (by decide +kernel)) (by decide +kernel) ⟨Nat.le_of_ble_eq_true rfl, Nat.le_of_ble_eq_true rfl⟩, hts (.instanceMethod yX0_copyFrom) (by decide +kernel), hts (.selects RX0 yX0_copyFrom yX0_copyFrom) (by decide +kernel)⟩ ⟨Pc0_blind, va_recv hT hP (q0 := 15) (ci := 0) rfl rfl, fun U hU hW => Pc0_at (Wd := (wX0 G (ado 2) ftrial ++ (wX0 G (ado 1) fnow))) hE (hP.subm [15, 16, 17, 18, 19, 20, 21, 22, 23, 24, 25, 4, 5, 6, 7, 8, 9, 10, 11, 12, 13, 14] rfl) (hD.sub [15, 16, 17, 18, 19, 20, 21, 22, 23, 24, 25, 4, 5, 6, 7, 8, 9, 10, 11, 12, 13, 14] (by decide) rfl) hU hW⟩ rfl rfl hl.1 rfl (lv_room (Nat.le_of_ble_eq_true rfl)) dX6_read_43 ⟨Nat.zero_le _, Nat.zero_le _⟩) hS hA hP hD (fun H locs hP hD hS => ?_)
          refine lv_iconst (v := (nI 0)) hx hb dX6_read_46 (ic_0) ?_
          refine lv_istore (lv' := [(6, .int (nI 0)), (5, .ref ((ado 12) 0)), (0, .ref (ad 0)), (1, .int x1), (2, .int x2), (3, .int x3), (4, .int x4)]) hx hb dX6_read_47 hl (by decide) rfl (fun ls hl => ?_)
          refine lv_iconst (v := (nI 0)) hx hb dX6_read_49 (ic_0) ?_
          refine lv_istore (lv' := [(7, .int (nI 0)), (6, .int (nI 0)), (5, .ref ((ado 12) 0)), (0, .ref (ad 0)), (1, .int x1), (2, .int x2), (3, .int x3), (4, .int x4)]) hx hb dX6_read_50 hl (by decide) rfl (fun ls hl => ?_)
          refine lv_iconst (v := (nI 0)) hx hb dX6_read_52 (ic_0) ?_
          refine lv_istore (lv' := [(8, .int (nI 0)), (7, .int (nI 0)), (6, .int (nI 0)), (5, .ref ((ado 12) 0)), (0, .ref (ad 0)), (1, .int x1), (2, .int x2), (3, .int x3), (4, .int x4)]) hx hb dX6_read_53 hl (by decide) rfl (fun ls hl => ?_)
          obtain ⟨ze, hlp, hf⟩ := bd_e hf
          refine lp_W2 (p_X6_read_L55_1 f fnow fsheet0 fsheet1 fsheet2 fsheet3 x2 x3 x4) (fun z => match z with | (x6, x7, x8, ftrial_) => ∀ (H : Heap) (locs : List Loc) (ls : Array Slot), va_P G.1 vwCl (wX6 G ad ado f ++ (wX0 G (ado 1) fnow ++ (wX0 G (ado 2) ftrial_ ++ (wX2 G (ado 11) fsheet0 ++ (wX2 G (ado 12) fsheet1 ++ (wX2 G (ado 13) fsheet2 ++ (wX2 G (ado 14) fsheet3))))))) H → va_D A (wX6 G ad ado f ++ (wX0 G (ado 1) fnow ++ (wX0 G (ado 2) ftrial_ ++ (wX2 G (ado 11) fsheet0 ++ (wX2 G (ado 12) fsheet1 ++ (wX2 G (ado 13) fsheet2 ++ (wX2 G (ado 14) fsheet3))))))) → va_S A s.heap H locs → lv_has ls 10 [(0, .ref (ad 0)), (2, .int x2), (3, .int x3), (4, .int x4), (5, .ref ((ado 12) 0)), (6, .int x6), (7, .int x7), (8, .int x8)] → W p l e ({ frames := 6, cells := 0, slots := 0, locals := 129 }) s m args below meth c H locs 0 0 Q (F0 m 55 ls [])) (fun z => match z with | (y6_55, y7_55, ftrial_55) => ∀ (H : Heap) (locs : List Loc) (ls : Array Slot), va_P G.1 vwCl (wX6 G ad ado f ++ (wX0 G (ado 1) fnow ++ (wX0 G (ado 2) ftrial_55 ++ (wX2 G (ado 11) fsheet0 ++ (wX2 G (ado 12) fsheet1 ++ (wX2 G (ado 13) fsheet2 ++ (wX2 G (ado 14) fsheet3))))))) H → va_D A (wX6 G ad ado f ++ (wX0 G (ado 1) fnow ++ (wX0 G (ado 2) ftrial_55 ++ (wX2 G (ado 11) fsheet0 ++ (wX2 G (ado 12) fsheet1 ++ (wX2 G (ado 13) fsheet2 ++ (wX2 G (ado 14) fsheet3))))))) → va_S A s.heap H locs → lv_has ls 10 [(0, .ref (ad 0)), (6, .int y6_55), (7, .int y7_55)] → W p l e ({ frames := 6, cells := 0, slots := 0, locals := 129 }) s m args below meth c H locs 0 0 Q (F0 m 119 ls [])) (fun z => z = (r, fz, fnowz, ftrialz)) ?_ hlp ?_ _ _ _ hP hD hS (lv_sub hl [4, 6, 7, 8, 3, 2, 1, 0] rfl)
          · clear hlp hf hK hP hD hS hl
            intro K55 hW55 hX55 hO55
            rintro ⟨x6, x7, x8, ftrial_⟩ res hf hK H locs ls hP hD hS hl
            unfold p_X6_read_L55_1 at hf
            dsimp only at hf
            refine lv_iload hx hb dX6_read_55 (lv_at hl 7 rfl) ?_
            refine lv_iload hx hb dX6_read_57 (lv_at hl 3 rfl) ?_
            refine lv_icmp_ge (tgt := 119) hx hb dX6_read_59 (by decide) (fun hc => ?_) (fun hc => ?_)
            · have hf := if_t hf hc
              have hK9 := K_of hf hK
              have hK9 := hX55 _ hK9
              exact hK9 _ _ _ hP hD hS (lv_sub hl [0, 5, 6] rfl)
            · have hf := if_f hf hc
              refine lv_iload hx hb dX6_read_62 (lv_at hl 5 rfl) ?_
              refine lv_if_ne (tgt := 119) hx hb dX6_read_64 (by decide) (fun hc => ?_) (fun hc => ?_)
              · have hf := if_f hf hc
                have hK9 := K_of hf hK
                have hK9 := hX55 _ hK9
                exact hK9 _ _ _ hP hD hS (lv_sub hl [0, 5, 6] rfl)
              · have hf := if_t hf hc
                refine lv_iload_n hx hb dX6_read_67 rfl (lv_at hl 2 rfl) ?_
                refine lv_iconst (v := (nI 4)) hx hb dX6_read_68 (ic_4) ?_
                refine lv_iload hx hb dX6_read_69 (lv_at hl 7 rfl) ?_
                refine lv_imul hx hb dX6_read_71 ?_
                refine lv_iadd hx hb dX6_read_72 ?_
                refine lv_istore (lv' := [(9, .int (x3 + ((nI 4) * x8))), (0, .ref (ad 0)), (2, .int x2), (3, .int x3), (4, .int x4), (5, .ref ((ado 12) 0)), (6, .int x6), (7, .int x7), (8, .int x8)]) hx hb dX6_read_73 hl (by decide) rfl (fun ls hl => ?_)
                refine lv_aload hx hb dX6_read_75 (lv_at hl 5 rfl) ?_
                refine lv_iload_n hx hb dX6_read_77 rfl (lv_at hl 2 rfl) ?_
                refine lv_iload hx hb dX6_read_78 (lv_at hl 0 rfl) ?_
                obtain ⟨r80, hc80, hf⟩ := bd_e hf
                refine cl_i_ro (Wd := (wX6 G ad ado f ++ (wX0 G (ado 1) fnow ++ (wX0 G (ado 2) ftrial_ ++ (wX2 G (ado 11) fsheet0 ++ (wX2 G (ado 12) fsheet1 ++ (wX2 G (ado 13) fsheet2 ++ (wX2 G (ado 14) fsheet3)))))))) (Wc := (wX2 G (ado 12) fsheet1)) [28, 29] rfl (va_runVN (As := [.int x2, .int (x3 + ((nI 4) * x8))]) (rest := []) hC (c_X2_faultOfTrade l G (ado 12) fsheet1 x2 (x3 + ((nI 4) * x8)) r80 hc80 _) ⟨va_cnB 2 hts gX6_read_X2_faultOfTrade_n303 rfl rfl rfl (hE.2.2 (RX6, 303, yX2_faultOfTrade, "FeatherShares") (List.mem_of_getElem? (i := 35) rfl)) (hts (.initialized RX2) (by decide +kernel)) (by decide +kernel) ⟨Nat.le_of_ble_eq_true rfl, Nat.le_of_ble_eq_true rfl⟩, hts (.instanceMethod yX2_faultOfTrade) (by decide +kernel), hts (.selects RX2 yX2_faultOfTrade yX2_faultOfTrade) (by decide +kernel)⟩ ⟨Pc0_blind, va_recv hT hP (q0 := 28) (ci := 2) rfl rfl, fun U hU hW => Pc0_at (Wd := (wX2 G (ado 12) fsheet1)) hE (hP.subm [28, 29] rfl) (hD.sub [28, 29] (by decide) rfl) hU hW⟩ rfl rfl hl.1 rfl (lv_room (Nat.le_of_ble_eq_true rfl)) dX6_read_80 ⟨Nat.zero_le _, Nat.zero_le _⟩) hS hA hP hD (fun H locs hP hD hS => ?_)
                refine lv_istore (lv' := [(6, .int r80), (9, .int (x3 + ((nI 4) * x8))), (0, .ref (ad 0)), (2, .int x2), (3, .int x3), (4, .int x4), (5, .ref ((ado 12) 0)), (7, .int x7), (8, .int x8)]) hx hb dX6_read_83 hl (by decide) rfl (fun ls hl => ?_)
                refine lv_iload hx hb dX6_read_85 (lv_at hl 0 rfl) ?_
                refine lv_if_ne (tgt := 113) hx hb dX6_read_87 (by decide) (fun hc => ?_) (fun hc => ?_)
                · have hf := if_f hf hc
                  refine lv_iinc (v := (x8 + nI 1)) (lv' := [(8, .int (x8 + nI 1)), (6, .int r80), (9, .int (x3 + ((nI 4) * x8))), (0, .ref (ad 0)), (2, .int x2), (3, .int x3), (4, .int x4), (5, .ref ((ado 12) 0)), (7, .int x7)]) hx hb dX6_read_113 hl (k := 8) rfl (ii_x 1 _) (by decide) rfl (fun ls hl => ?_)
                  refine lv_goto (tgt := 55) hx hb dX6_read_116 (by decide) ?_
                  have hK9 := K_of hf hK
                  have hK9 := hW55 _ hK9
                  exact hK9 _ _ _ hP hD hS (lv_sub hl [3, 4, 5, 6, 7, 1, 8, 0] rfl)
                · have hf := if_t hf hc
                  refine lv_aload hx hb dX6_read_90 (lv_at hl 6 rfl) ?_
                  refine lv_iload hx hb dX6_read_92 (lv_at hl 1 rfl) ?_
                  refine lv_aload_n hx hb dX6_read_94 rfl (lv_at hl 2 rfl) ?_
                  refine va_get (C := RX6) (T := TX6) (N := 11) (ci := 6) (v := .ref ((ado 2) 0)) hx hb hts inX6 hown hT hP 0 rfl rfl 1 (Nat.le_of_ble_eq_true rfl) lk16 (fun _ h => h) rfl dX6_read_95 ?_
                  obtain ⟨⟨r98, ftrial_98⟩, hc98, hf⟩ := bd_e hf
                  try dsimp only at hf
                  refine cl_z_up (Wd := (wX6 G ad ado f ++ (wX0 G (ado 1) fnow ++ (wX0 G (ado 2) ftrial_ ++ (wX2 G (ado 11) fsheet0 ++ (wX2 G (ado 12) fsheet1 ++ (wX2 G (ado 13) fsheet2 ++ (wX2 G (ado 14) fsheet3)))))))) (Wc := (wX2 G (ado 12) fsheet1 ++ (wX0 G (ado 2) ftrial_))) (W' := (wX2 G (ado 12) fsheet1 ++ (wX0 G (ado 2) ftrial_98))) (W2 := (wX6 G ad ado f ++ (wX0 G (ado 1) fnow ++ (wX0 G (ado 2) ftrial_98 ++ (wX2 G (ado 11) fsheet0 ++ (wX2 G (ado 12) fsheet1 ++ (wX2 G (ado 13) fsheet2 ++ (wX2 G (ado 14) fsheet3)))))))) [28, 29, 15, 16, 17, 18, 19, 20, 21, 22, 23, 24, 25] [0, 1, 2, 3, 4, 5, 6, 7, 8, 9, 10, 11, 12, 13, 14, 26, 27, 30, 31, 32, 33] rfl rfl rfl rfl rfl (va_runVN (As := [.int (x3 + ((nI 4) * x8)), .ref ((ado 2) 0)]) (rest := []) hC (c_X2_tradeOn l G (ado 12) (ado 2) fsheet1 ftrial_ (x3 + ((nI 4) * x8)) r98 ftrial_98 hc98 _) ⟨va_cnB 2 hts gX6_read_X2_tradeOn_n306 rfl rfl rfl (hE.2.2 (RX6, 306, yX2_tradeOn, "FeatherShares") (List.mem_of_getElem? (i := 36) rfl)) (hts (.initialized RX2) (by decide +kernel)) (by decide +kernel) ⟨Nat.le_of_ble_eq_true rfl, Nat.le_of_ble_eq_true rfl⟩, hts (.instanceMethod yX2_tradeOn) (by decide +kernel), hts (.selects RX2 yX2_tradeOn yX2_tradeOn) (by decide +kernel)⟩ ⟨Pc0_blind, va_recv hT hP (q0 := 28) (ci := 2) rfl rfl, fun U hU hW => Pc0_at (Wd := (wX2 G (ado 12) fsheet1 ++ (wX0 G (ado 2) ftrial_))) hE (hP.subm [28, 29, 15, 16, 17, 18, 19, 20, 21, 22, 23, 24, 25] rfl) (hD.sub [28, 29, 15, 16, 17, 18, 19, 20, 21, 22, 23, 24, 25] (by decide) rfl) hU hW⟩ rfl rfl hl.1 rfl (lv_room (Nat.le_of_ble_eq_true rfl)) dX6_read_98 ⟨Nat.zero_le _, Nat.zero_le _⟩) hS hA hP hD (fun H locs hn98 hP hD hS => ?_)
                  refine lv_if_ne (tgt := 110) hx hb dX6_read_101 (by decide) (fun hc => ?_) (fun hc => ?_)
                  · have hf := if_f hf hc
                    refine lv_iinc (v := (x7 + nI 1)) (lv' := [(7, .int (x7 + nI 1)), (6, .int r80), (9, .int (x3 + ((nI 4) * x8))), (0, .ref (ad 0)), (2, .int x2), (3, .int x3), (4, .int x4), (5, .ref ((ado 12) 0)), (8, .int x8)]) hx hb dX6_read_110 hl (k := 7) rfl (ii_x 1 _) (by decide) rfl (fun ls hl => ?_)
                    refine lv_iinc (v := (x8 + nI 1)) (lv' := [(8, .int (x8 + nI 1)), (7, .int (x7 + nI 1)), (6, .int r80), (9, .int (x3 + ((nI 4) * x8))), (0, .ref (ad 0)), (2, .int x2), (3, .int x3), (4, .int x4), (5, .ref ((ado 12) 0))]) hx hb dX6_read_113 hl (k := 8) rfl (ii_x 1 _) (by decide) rfl (fun ls hl => ?_)
                    refine lv_goto (tgt := 55) hx hb dX6_read_116 (by decide) ?_
                    have hK9 := K_of hf hK
                    have hK9 := hW55 _ hK9
                    exact hK9 _ _ _ hP hD hS (lv_sub hl [4, 5, 6, 7, 8, 2, 1, 0] rfl)
                  · have hf := if_t hf hc
                    refine lv_bipush (v := (-20 : Int32)) hx hb dX6_read_104 (bi_m20) ?_
                    refine lv_iload hx hb dX6_read_106 (lv_at hl 8 rfl) ?_
                    refine lv_isub hx hb dX6_read_108 ?_
                    have hK9 := K_of hf hK
                    have hK9 := hO55 _ hK9
                    exact hRet ((-20 : Int32) - x8) f fnow ftrial_98 _ _ _ _ hK9 dX6_read_109 hP hD hS
          · rcases ze with ⟨y6_55, y7_55, ftrial_55⟩ | zo
            · try simp only [Sum.elim_inl] at hf
              try dsimp only at hf
              show ∀ (H : Heap) (locs : List Loc) (ls : Array Slot), va_P G.1 vwCl (wX6 G ad ado f ++ (wX0 G (ado 1) fnow ++ (wX0 G (ado 2) ftrial_55 ++ (wX2 G (ado 11) fsheet0 ++ (wX2 G (ado 12) fsheet1 ++ (wX2 G (ado 13) fsheet2 ++ (wX2 G (ado 14) fsheet3))))))) H → va_D A (wX6 G ad ado f ++ (wX0 G (ado 1) fnow ++ (wX0 G (ado 2) ftrial_55 ++ (wX2 G (ado 11) fsheet0 ++ (wX2 G (ado 12) fsheet1 ++ (wX2 G (ado 13) fsheet2 ++ (wX2 G (ado 14) fsheet3))))))) → va_S A s.heap H locs → lv_has ls 10 [(0, .ref (ad 0)), (6, .int y6_55), (7, .int y7_55)] → W p l e ({ frames := 6, cells := 0, slots := 0, locals := 129 }) s m args below meth c H locs 0 0 Q (F0 m 119 ls [])
              intro H locs ls hP hD hS hl
              exact hB119 f fnow ftrial_55 fsheet0 fsheet1 fsheet2 fsheet3 y6_55 y7_55 _ hf hK _ _ _ hP hD hS (lv_sub hl [0, 1, 2] rfl)
            · have hK9 := K0_of (show some zo = some _ from hf) hK
              exact hK9
        rw [if_neg hc32] at hf
        by_cases hc32 : x1 = nI 2
        · rw [if_pos hc32] at hf
          refine va_aldq hx hb hT hP 3 3 rfl rfl (by rw [hc32]; exact vp_in_nI (by decide) (by decide)) dX6_read_32 ?_
          refine W.eq (g2 := F0 m 33 ls []) (by rw [hc32]; rfl) ?_
          refine lv_astore (lv' := [(5, .ref ((ado 13) 0)), (0, .ref (ad 0)), (1, .int x1), (2, .int x2), (3, .int x3), (4, .int x4)]) hx hb dX6_read_33 hl (by decide) rfl (fun ls hl => ?_)
          refine lv_aload_n hx hb dX6_read_35 rfl (lv_at hl 1 rfl) ?_
          refine va_get (C := RX6) (T := TX6) (N := 11) (ci := 6) (v := .ref ((ado 2) 0)) hx hb hts inX6 hown hT hP 0 rfl rfl 1 (Nat.le_of_ble_eq_true rfl) lk16 (fun _ h => h) rfl dX6_read_36 ?_
          refine lv_aload_n hx hb dX6_read_39 rfl (lv_at hl 1 rfl) ?_
          refine va_get (C := RX6) (T := TX6) (N := 11) (ci := 6) (v := .ref ((ado 1) 0)) hx hb hts inX6 hown hT hP 0 rfl rfl 0 (Nat.le_of_ble_eq_true rfl) lk12 (fun _ h => h) rfl dX6_read_40 ?_
          obtain ⟨ftrial_43, hc43, hf⟩ := bd_e hf
          refine cl_v_up (Wd := (wX6 G ad ado f ++ (wX0 G (ado 1) fnow ++ (wX0 G (ado 2) ftrial ++ (wX2 G (ado 11) fsheet0 ++ (wX2 G (ado 12) fsheet1 ++ (wX2 G (ado 13) fsheet2 ++ (wX2 G (ado 14) fsheet3)))))))) (Wc := (wX0 G (ado 2) ftrial ++ (wX0 G (ado 1) fnow))) (W' := (wX0 G (ado 2) ftrial_43 ++ (wX0 G (ado 1) fnow))) (W2 := (wX6 G ad ado f ++ (wX0 G (ado 1) fnow ++ (wX0 G (ado 2) ftrial_43 ++ (wX2 G (ado 11) fsheet0 ++ (wX2 G (ado 12) fsheet1 ++ (wX2 G (ado 13) fsheet2 ++ (wX2 G (ado 14) fsheet3)))))))) [15, 16, 17, 18, 19, 20, 21, 22, 23, 24, 25, 4, 5, 6, 7, 8, 9, 10, 11, 12, 13, 14] [0, 1, 2, 3, 26, 27, 28, 29, 30, 31, 32, 33] rfl rfl rfl rfl rfl (va_runVN (As := [.ref ((ado 1) 0)]) (rest := []) hC (c_X0_copyFrom l G (ado 2) (ado 1) ftrial fnow ftrial_43 hc43 _) ⟨va_cnB 1 hts gX6_read_X0_copyFrom_n93 rfl rfl rfl (hE.2.2 (RX6, 93, yX0_copyFrom, "FeatherShares") (List.mem_of_getElem? (i := 8) rfl)) (hts (.initialized RX0) (by decide +kernel)) (by decide +kernel) ⟨Nat.le_of_ble_eq_true rfl, Nat.le_of_ble_eq_true rfl⟩, hts (.instanceMethod yX0_copyFrom) (by decide +kernel), hts (.selects RX0 yX0_copyFrom yX0_copyFrom) (by decide +kernel)⟩ ⟨Pc0_blind, va_recv hT hP (q0 := 15) (ci := 0) rfl rfl, fun U hU hW => Pc0_at (Wd := (wX0 G (ado 2) ftrial ++ (wX0 G (ado 1) fnow))) hE (hP.subm [15, 16, 17, 18, 19, 20, 21, 22, 23, 24, 25, 4, 5, 6, 7, 8, 9, 10, 11, 12, 13, 14] rfl) (hD.sub [15, 16, 17, 18, 19, 20, 21, 22, 23, 24, 25, 4, 5, 6, 7, 8, 9, 10, 11, 12, 13, 14] (by decide) rfl) hU hW⟩ rfl rfl hl.1 rfl (lv_room (Nat.le_of_ble_eq_true rfl)) dX6_read_43 ⟨Nat.zero_le _, Nat.zero_le _⟩) hS hA hP hD (fun H locs hP hD hS => ?_)
          refine lv_iconst (v := (nI 0)) hx hb dX6_read_46 (ic_0) ?_
          refine lv_istore (lv' := [(6, .int (nI 0)), (5, .ref ((ado 13) 0)), (0, .ref (ad 0)), (1, .int x1), (2, .int x2), (3, .int x3), (4, .int x4)]) hx hb dX6_read_47 hl (by decide) rfl (fun ls hl => ?_)
          refine lv_iconst (v := (nI 0)) hx hb dX6_read_49 (ic_0) ?_
          refine lv_istore (lv' := [(7, .int (nI 0)), (6, .int (nI 0)), (5, .ref ((ado 13) 0)), (0, .ref (ad 0)), (1, .int x1), (2, .int x2), (3, .int x3), (4, .int x4)]) hx hb dX6_read_50 hl (by decide) rfl (fun ls hl => ?_)
          refine lv_iconst (v := (nI 0)) hx hb dX6_read_52 (ic_0) ?_
          refine lv_istore (lv' := [(8, .int (nI 0)), (7, .int (nI 0)), (6, .int (nI 0)), (5, .ref ((ado 13) 0)), (0, .ref (ad 0)), (1, .int x1), (2, .int x2), (3, .int x3), (4, .int x4)]) hx hb dX6_read_53 hl (by decide) rfl (fun ls hl => ?_)
          obtain ⟨ze, hlp, hf⟩ := bd_e hf
          refine lp_W2 (p_X6_read_L55_2 f fnow fsheet0 fsheet1 fsheet2 fsheet3 x2 x3 x4) (fun z => match z with | (x6, x7, x8, ftrial_) => ∀ (H : Heap) (locs : List Loc) (ls : Array Slot), va_P G.1 vwCl (wX6 G ad ado f ++ (wX0 G (ado 1) fnow ++ (wX0 G (ado 2) ftrial_ ++ (wX2 G (ado 11) fsheet0 ++ (wX2 G (ado 12) fsheet1 ++ (wX2 G (ado 13) fsheet2 ++ (wX2 G (ado 14) fsheet3))))))) H → va_D A (wX6 G ad ado f ++ (wX0 G (ado 1) fnow ++ (wX0 G (ado 2) ftrial_ ++ (wX2 G (ado 11) fsheet0 ++ (wX2 G (ado 12) fsheet1 ++ (wX2 G (ado 13) fsheet2 ++ (wX2 G (ado 14) fsheet3))))))) → va_S A s.heap H locs → lv_has ls 10 [(0, .ref (ad 0)), (2, .int x2), (3, .int x3), (4, .int x4), (5, .ref ((ado 13) 0)), (6, .int x6), (7, .int x7), (8, .int x8)] → W p l e ({ frames := 6, cells := 0, slots := 0, locals := 129 }) s m args below meth c H locs 0 0 Q (F0 m 55 ls [])) (fun z => match z with | (y6_55, y7_55, ftrial_55) => ∀ (H : Heap) (locs : List Loc) (ls : Array Slot), va_P G.1 vwCl (wX6 G ad ado f ++ (wX0 G (ado 1) fnow ++ (wX0 G (ado 2) ftrial_55 ++ (wX2 G (ado 11) fsheet0 ++ (wX2 G (ado 12) fsheet1 ++ (wX2 G (ado 13) fsheet2 ++ (wX2 G (ado 14) fsheet3))))))) H → va_D A (wX6 G ad ado f ++ (wX0 G (ado 1) fnow ++ (wX0 G (ado 2) ftrial_55 ++ (wX2 G (ado 11) fsheet0 ++ (wX2 G (ado 12) fsheet1 ++ (wX2 G (ado 13) fsheet2 ++ (wX2 G (ado 14) fsheet3))))))) → va_S A s.heap H locs → lv_has ls 10 [(0, .ref (ad 0)), (6, .int y6_55), (7, .int y7_55)] → W p l e ({ frames := 6, cells := 0, slots := 0, locals := 129 }) s m args below meth c H locs 0 0 Q (F0 m 119 ls [])) (fun z => z = (r, fz, fnowz, ftrialz)) ?_ hlp ?_ _ _ _ hP hD hS (lv_sub hl [4, 6, 7, 8, 3, 2, 1, 0] rfl)
          · clear hlp hf hK hP hD hS hl
            intro K55 hW55 hX55 hO55
            rintro ⟨x6, x7, x8, ftrial_⟩ res hf hK H locs ls hP hD hS hl
            unfold p_X6_read_L55_2 at hf
            dsimp only at hf
            refine lv_iload hx hb dX6_read_55 (lv_at hl 7 rfl) ?_
            refine lv_iload hx hb dX6_read_57 (lv_at hl 3 rfl) ?_
            refine lv_icmp_ge (tgt := 119) hx hb dX6_read_59 (by decide) (fun hc => ?_) (fun hc => ?_)
            · have hf := if_t hf hc
              have hK9 := K_of hf hK
              have hK9 := hX55 _ hK9
              exact hK9 _ _ _ hP hD hS (lv_sub hl [0, 5, 6] rfl)
            · have hf := if_f hf hc
              refine lv_iload hx hb dX6_read_62 (lv_at hl 5 rfl) ?_
              refine lv_if_ne (tgt := 119) hx hb dX6_read_64 (by decide) (fun hc => ?_) (fun hc => ?_)
              · have hf := if_f hf hc
                have hK9 := K_of hf hK
                have hK9 := hX55 _ hK9
                exact hK9 _ _ _ hP hD hS (lv_sub hl [0, 5, 6] rfl)
              · have hf := if_t hf hc
                refine lv_iload_n hx hb dX6_read_67 rfl (lv_at hl 2 rfl) ?_
                refine lv_iconst (v := (nI 4)) hx hb dX6_read_68 (ic_4) ?_
                refine lv_iload hx hb dX6_read_69 (lv_at hl 7 rfl) ?_
                refine lv_imul hx hb dX6_read_71 ?_
                refine lv_iadd hx hb dX6_read_72 ?_
                refine lv_istore (lv' := [(9, .int (x3 + ((nI 4) * x8))), (0, .ref (ad 0)), (2, .int x2), (3, .int x3), (4, .int x4), (5, .ref ((ado 13) 0)), (6, .int x6), (7, .int x7), (8, .int x8)]) hx hb dX6_read_73 hl (by decide) rfl (fun ls hl => ?_)
                refine lv_aload hx hb dX6_read_75 (lv_at hl 5 rfl) ?_
                refine lv_iload_n hx hb dX6_read_77 rfl (lv_at hl 2 rfl) ?_
                refine lv_iload hx hb dX6_read_78 (lv_at hl 0 rfl) ?_
                obtain ⟨r80, hc80, hf⟩ := bd_e hf
                refine cl_i_ro (Wd := (wX6 G ad ado f ++ (wX0 G (ado 1) fnow ++ (wX0 G (ado 2) ftrial_ ++ (wX2 G (ado 11) fsheet0 ++ (wX2 G (ado 12) fsheet1 ++ (wX2 G (ado 13) fsheet2 ++ (wX2 G (ado 14) fsheet3)))))))) (Wc := (wX2 G (ado 13) fsheet2)) [30, 31] rfl (va_runVN (As := [.int x2, .int (x3 + ((nI 4) * x8))]) (rest := []) hC (c_X2_faultOfTrade l G (ado 13) fsheet2 x2 (x3 + ((nI 4) * x8)) r80 hc80 _) ⟨va_cnB 2 hts gX6_read_X2_faultOfTrade_n303 rfl rfl rfl (hE.2.2 (RX6, 303, yX2_faultOfTrade, "FeatherShares") (List.mem_of_getElem? (i := 35) rfl)) (hts (.initialized RX2) (by decide +kernel)) (by decide +kernel) ⟨Nat.le_of_ble_eq_true rfl, Nat.le_of_ble_eq_true rfl⟩, hts (.instanceMethod yX2_faultOfTrade) (by decide +kernel), hts (.selects RX2 yX2_faultOfTrade yX2_faultOfTrade) (by decide +kernel)⟩ ⟨Pc0_blind, va_recv hT hP (q0 := 30) (ci := 2) rfl rfl, fun U hU hW => Pc0_at (Wd := (wX2 G (ado 13) fsheet2)) hE (hP.subm [30, 31] rfl) (hD.sub [30, 31] (by decide) rfl) hU hW⟩ rfl rfl hl.1 rfl (lv_room (Nat.le_of_ble_eq_true rfl)) dX6_read_80 ⟨Nat.zero_le _, Nat.zero_le _⟩) hS hA hP hD (fun H locs hP hD hS => ?_)
                refine lv_istore (lv' := [(6, .int r80), (9, .int (x3 + ((nI 4) * x8))), (0, .ref (ad 0)), (2, .int x2), (3, .int x3), (4, .int x4), (5, .ref ((ado 13) 0)), (7, .int x7), (8, .int x8)]) hx hb dX6_read_83 hl (by decide) rfl (fun ls hl => ?_)
                refine lv_iload hx hb dX6_read_85 (lv_at hl 0 rfl) ?_
                refine lv_if_ne (tgt := 113) hx hb dX6_read_87 (by decide) (fun hc => ?_) (fun hc => ?_)
                · have hf := if_f hf hc
                  refine lv_iinc (v := (x8 + nI 1)) (lv' := [(8, .int (x8 + nI 1)), (6, .int r80), (9, .int (x3 + ((nI 4) * x8))), (0, .ref (ad 0)), (2, .int x2), (3, .int x3), (4, .int x4), (5, .ref ((ado 13) 0)), (7, .int x7)]) hx hb dX6_read_113 hl (k := 8) rfl (ii_x 1 _) (by decide) rfl (fun ls hl => ?_)
                  refine lv_goto (tgt := 55) hx hb dX6_read_116 (by decide) ?_
                  have hK9 := K_of hf hK
                  have hK9 := hW55 _ hK9
                  exact hK9 _ _ _ hP hD hS (lv_sub hl [3, 4, 5, 6, 7, 1, 8, 0] rfl)
                · have hf := if_t hf hc
                  refine lv_aload hx hb dX6_read_90 (lv_at hl 6 rfl) ?_
                  refine lv_iload hx hb dX6_read_92 (lv_at hl 1 rfl) ?_
                  refine lv_aload_n hx hb dX6_read_94 rfl (lv_at hl 2 rfl) ?_
                  refine va_get (C := RX6) (T := TX6) (N := 11) (ci := 6) (v := .ref ((ado 2) 0)) hx hb hts inX6 hown hT hP 0 rfl rfl 1 (Nat.le_of_ble_eq_true rfl) lk16 (fun _ h => h) rfl dX6_read_95 ?_
                  obtain ⟨⟨r98, ftrial_98⟩, hc98, hf⟩ := bd_e hf
                  try dsimp only at hf
                  refine cl_z_up (Wd := (wX6 G ad ado f ++ (wX0 G (ado 1) fnow ++ (wX0 G (ado 2) ftrial_ ++ (wX2 G (ado 11) fsheet0 ++ (wX2 G (ado 12) fsheet1 ++ (wX2 G (ado 13) fsheet2 ++ (wX2 G (ado 14) fsheet3)))))))) (Wc := (wX2 G (ado 13) fsheet2 ++ (wX0 G (ado 2) ftrial_))) (W' := (wX2 G (ado 13) fsheet2 ++ (wX0 G (ado 2) ftrial_98))) (W2 := (wX6 G ad ado f ++ (wX0 G (ado 1) fnow ++ (wX0 G (ado 2) ftrial_98 ++ (wX2 G (ado 11) fsheet0 ++ (wX2 G (ado 12) fsheet1 ++ (wX2 G (ado 13) fsheet2 ++ (wX2 G (ado 14) fsheet3)))))))) [30, 31, 15, 16, 17, 18, 19, 20, 21, 22, 23, 24, 25] [0, 1, 2, 3, 4, 5, 6, 7, 8, 9, 10, 11, 12, 13, 14, 26, 27, 28, 29, 32, 33] rfl rfl rfl rfl rfl (va_runVN (As := [.int (x3 + ((nI 4) * x8)), .ref ((ado 2) 0)]) (rest := []) hC (c_X2_tradeOn l G (ado 13) (ado 2) fsheet2 ftrial_ (x3 + ((nI 4) * x8)) r98 ftrial_98 hc98 _) ⟨va_cnB 2 hts gX6_read_X2_tradeOn_n306 rfl rfl rfl (hE.2.2 (RX6, 306, yX2_tradeOn, "FeatherShares") (List.mem_of_getElem? (i := 36) rfl)) (hts (.initialized RX2) (by decide +kernel)) (by decide +kernel) ⟨Nat.le_of_ble_eq_true rfl, Nat.le_of_ble_eq_true rfl⟩, hts (.instanceMethod yX2_tradeOn) (by decide +kernel), hts (.selects RX2 yX2_tradeOn yX2_tradeOn) (by decide +kernel)⟩ ⟨Pc0_blind, va_recv hT hP (q0 := 30) (ci := 2) rfl rfl, fun U hU hW => Pc0_at (Wd := (wX2 G (ado 13) fsheet2 ++ (wX0 G (ado 2) ftrial_))) hE (hP.subm [30, 31, 15, 16, 17, 18, 19, 20, 21, 22, 23, 24, 25] rfl) (hD.sub [30, 31, 15, 16, 17, 18, 19, 20, 21, 22, 23, 24, 25] (by decide) rfl) hU hW⟩ rfl rfl hl.1 rfl (lv_room (Nat.le_of_ble_eq_true rfl)) dX6_read_98 ⟨Nat.zero_le _, Nat.zero_le _⟩) hS hA hP hD (fun H locs hn98 hP hD hS => ?_)
                  refine lv_if_ne (tgt := 110) hx hb dX6_read_101 (by decide) (fun hc => ?_) (fun hc => ?_)
                  · have hf := if_f hf hc
                    refine lv_iinc (v := (x7 + nI 1)) (lv' := [(7, .int (x7 + nI 1)), (6, .int r80), (9, .int (x3 + ((nI 4) * x8))), (0, .ref (ad 0)), (2, .int x2), (3, .int x3), (4, .int x4), (5, .ref ((ado 13) 0)), (8, .int x8)]) hx hb dX6_read_110 hl (k := 7) rfl (ii_x 1 _) (by decide) rfl (fun ls hl => ?_)
                    refine lv_iinc (v := (x8 + nI 1)) (lv' := [(8, .int (x8 + nI 1)), (7, .int (x7 + nI 1)), (6, .int r80), (9, .int (x3 + ((nI 4) * x8))), (0, .ref (ad 0)), (2, .int x2), (3, .int x3), (4, .int x4), (5, .ref ((ado 13) 0))]) hx hb dX6_read_113 hl (k := 8) rfl (ii_x 1 _) (by decide) rfl (fun ls hl => ?_)
                    refine lv_goto (tgt := 55) hx hb dX6_read_116 (by decide) ?_
                    have hK9 := K_of hf hK
                    have hK9 := hW55 _ hK9
                    exact hK9 _ _ _ hP hD hS (lv_sub hl [4, 5, 6, 7, 8, 2, 1, 0] rfl)
                  · have hf := if_t hf hc
                    refine lv_bipush (v := (-20 : Int32)) hx hb dX6_read_104 (bi_m20) ?_
                    refine lv_iload hx hb dX6_read_106 (lv_at hl 8 rfl) ?_
                    refine lv_isub hx hb dX6_read_108 ?_
                    have hK9 := K_of hf hK
                    have hK9 := hO55 _ hK9
                    exact hRet ((-20 : Int32) - x8) f fnow ftrial_98 _ _ _ _ hK9 dX6_read_109 hP hD hS
          · rcases ze with ⟨y6_55, y7_55, ftrial_55⟩ | zo
            · try simp only [Sum.elim_inl] at hf
              try dsimp only at hf
              show ∀ (H : Heap) (locs : List Loc) (ls : Array Slot), va_P G.1 vwCl (wX6 G ad ado f ++ (wX0 G (ado 1) fnow ++ (wX0 G (ado 2) ftrial_55 ++ (wX2 G (ado 11) fsheet0 ++ (wX2 G (ado 12) fsheet1 ++ (wX2 G (ado 13) fsheet2 ++ (wX2 G (ado 14) fsheet3))))))) H → va_D A (wX6 G ad ado f ++ (wX0 G (ado 1) fnow ++ (wX0 G (ado 2) ftrial_55 ++ (wX2 G (ado 11) fsheet0 ++ (wX2 G (ado 12) fsheet1 ++ (wX2 G (ado 13) fsheet2 ++ (wX2 G (ado 14) fsheet3))))))) → va_S A s.heap H locs → lv_has ls 10 [(0, .ref (ad 0)), (6, .int y6_55), (7, .int y7_55)] → W p l e ({ frames := 6, cells := 0, slots := 0, locals := 129 }) s m args below meth c H locs 0 0 Q (F0 m 119 ls [])
              intro H locs ls hP hD hS hl
              exact hB119 f fnow ftrial_55 fsheet0 fsheet1 fsheet2 fsheet3 y6_55 y7_55 _ hf hK _ _ _ hP hD hS (lv_sub hl [0, 1, 2] rfl)
            · have hK9 := K0_of (show some zo = some _ from hf) hK
              exact hK9
        rw [if_neg hc32] at hf
        by_cases hc32 : x1 = nI 3
        · rw [if_pos hc32] at hf
          refine va_aldq hx hb hT hP 3 3 rfl rfl (by rw [hc32]; exact vp_in_nI (by decide) (by decide)) dX6_read_32 ?_
          refine W.eq (g2 := F0 m 33 ls []) (by rw [hc32]; rfl) ?_
          refine lv_astore (lv' := [(5, .ref ((ado 14) 0)), (0, .ref (ad 0)), (1, .int x1), (2, .int x2), (3, .int x3), (4, .int x4)]) hx hb dX6_read_33 hl (by decide) rfl (fun ls hl => ?_)
          refine lv_aload_n hx hb dX6_read_35 rfl (lv_at hl 1 rfl) ?_
          refine va_get (C := RX6) (T := TX6) (N := 11) (ci := 6) (v := .ref ((ado 2) 0)) hx hb hts inX6 hown hT hP 0 rfl rfl 1 (Nat.le_of_ble_eq_true rfl) lk16 (fun _ h => h) rfl dX6_read_36 ?_
          refine lv_aload_n hx hb dX6_read_39 rfl (lv_at hl 1 rfl) ?_
          refine va_get (C := RX6) (T := TX6) (N := 11) (ci := 6) (v := .ref ((ado 1) 0)) hx hb hts inX6 hown hT hP 0 rfl rfl 0 (Nat.le_of_ble_eq_true rfl) lk12 (fun _ h => h) rfl dX6_read_40 ?_
          obtain ⟨ftrial_43, hc43, hf⟩ := bd_e hf
          refine cl_v_up (Wd := (wX6 G ad ado f ++ (wX0 G (ado 1) fnow ++ (wX0 G (ado 2) ftrial ++ (wX2 G (ado 11) fsheet0 ++ (wX2 G (ado 12) fsheet1 ++ (wX2 G (ado 13) fsheet2 ++ (wX2 G (ado 14) fsheet3)))))))) (Wc := (wX0 G (ado 2) ftrial ++ (wX0 G (ado 1) fnow))) (W' := (wX0 G (ado 2) ftrial_43 ++ (wX0 G (ado 1) fnow))) (W2 := (wX6 G ad ado f ++ (wX0 G (ado 1) fnow ++ (wX0 G (ado 2) ftrial_43 ++ (wX2 G (ado 11) fsheet0 ++ (wX2 G (ado 12) fsheet1 ++ (wX2 G (ado 13) fsheet2 ++ (wX2 G (ado 14) fsheet3)))))))) [15, 16, 17, 18, 19, 20, 21, 22, 23, 24, 25, 4, 5, 6, 7, 8, 9, 10, 11, 12, 13, 14] [0, 1, 2, 3, 26, 27, 28, 29, 30, 31, 32, 33] rfl rfl rfl rfl rfl (va_runVN (As := [.ref ((ado 1) 0)]) (rest := []) hC (c_X0_copyFrom l G (ado 2) (ado 1) ftrial fnow ftrial_43 hc43 _) ⟨va_cnB 1 hts gX6_read_X0_copyFrom_n93 rfl rfl rfl (hE.2.2 (RX6, 93, yX0_copyFrom, "FeatherShares") (List.mem_of_getElem? (i := 8) rfl)) (hts (.initialized RX0) (by decide +kernel)) (by decide +kernel) ⟨Nat.le_of_ble_eq_true rfl, Nat.le_of_ble_eq_true rfl⟩, hts (.instanceMethod yX0_copyFrom) (by decide +kernel), hts (.selects RX0 yX0_copyFrom yX0_copyFrom) (by decide +kernel)⟩ ⟨Pc0_blind, va_recv hT hP (q0 := 15) (ci := 0) rfl rfl, fun U hU hW => Pc0_at (Wd := (wX0 G (ado 2) ftrial ++ (wX0 G (ado 1) fnow))) hE (hP.subm [15, 16, 17, 18, 19, 20, 21, 22, 23, 24, 25, 4, 5, 6, 7, 8, 9, 10, 11, 12, 13, 14] rfl) (hD.sub [15, 16, 17, 18, 19, 20, 21, 22, 23, 24, 25, 4, 5, 6, 7, 8, 9, 10, 11, 12, 13, 14] (by decide) rfl) hU hW⟩ rfl rfl hl.1 rfl (lv_room (Nat.le_of_ble_eq_true rfl)) dX6_read_43 ⟨Nat.zero_le _, Nat.zero_le _⟩) hS hA hP hD (fun H locs hP hD hS => ?_)
          refine lv_iconst (v := (nI 0)) hx hb dX6_read_46 (ic_0) ?_
          refine lv_istore (lv' := [(6, .int (nI 0)), (5, .ref ((ado 14) 0)), (0, .ref (ad 0)), (1, .int x1), (2, .int x2), (3, .int x3), (4, .int x4)]) hx hb dX6_read_47 hl (by decide) rfl (fun ls hl => ?_)
          refine lv_iconst (v := (nI 0)) hx hb dX6_read_49 (ic_0) ?_
          refine lv_istore (lv' := [(7, .int (nI 0)), (6, .int (nI 0)), (5, .ref ((ado 14) 0)), (0, .ref (ad 0)), (1, .int x1), (2, .int x2), (3, .int x3), (4, .int x4)]) hx hb dX6_read_50 hl (by decide) rfl (fun ls hl => ?_)
          refine lv_iconst (v := (nI 0)) hx hb dX6_read_52 (ic_0) ?_
          refine lv_istore (lv' := [(8, .int (nI 0)), (7, .int (nI 0)), (6, .int (nI 0)), (5, .ref ((ado 14) 0)), (0, .ref (ad 0)), (1, .int x1), (2, .int x2), (3, .int x3), (4, .int x4)]) hx hb dX6_read_53 hl (by decide) rfl (fun ls hl => ?_)
          obtain ⟨ze, hlp, hf⟩ := bd_e hf
          refine lp_W2 (p_X6_read_L55_3 f fnow fsheet0 fsheet1 fsheet2 fsheet3 x2 x3 x4) (fun z => match z with | (x6, x7, x8, ftrial_) => ∀ (H : Heap) (locs : List Loc) (ls : Array Slot), va_P G.1 vwCl (wX6 G ad ado f ++ (wX0 G (ado 1) fnow ++ (wX0 G (ado 2) ftrial_ ++ (wX2 G (ado 11) fsheet0 ++ (wX2 G (ado 12) fsheet1 ++ (wX2 G (ado 13) fsheet2 ++ (wX2 G (ado 14) fsheet3))))))) H → va_D A (wX6 G ad ado f ++ (wX0 G (ado 1) fnow ++ (wX0 G (ado 2) ftrial_ ++ (wX2 G (ado 11) fsheet0 ++ (wX2 G (ado 12) fsheet1 ++ (wX2 G (ado 13) fsheet2 ++ (wX2 G (ado 14) fsheet3))))))) → va_S A s.heap H locs → lv_has ls 10 [(0, .ref (ad 0)), (2, .int x2), (3, .int x3), (4, .int x4), (5, .ref ((ado 14) 0)), (6, .int x6), (7, .int x7), (8, .int x8)] → W p l e ({ frames := 6, cells := 0, slots := 0, locals := 129 }) s m args below meth c H locs 0 0 Q (F0 m 55 ls [])) (fun z => match z with | (y6_55, y7_55, ftrial_55) => ∀ (H : Heap) (locs : List Loc) (ls : Array Slot), va_P G.1 vwCl (wX6 G ad ado f ++ (wX0 G (ado 1) fnow ++ (wX0 G (ado 2) ftrial_55 ++ (wX2 G (ado 11) fsheet0 ++ (wX2 G (ado 12) fsheet1 ++ (wX2 G (ado 13) fsheet2 ++ (wX2 G (ado 14) fsheet3))))))) H → va_D A (wX6 G ad ado f ++ (wX0 G (ado 1) fnow ++ (wX0 G (ado 2) ftrial_55 ++ (wX2 G (ado 11) fsheet0 ++ (wX2 G (ado 12) fsheet1 ++ (wX2 G (ado 13) fsheet2 ++ (wX2 G (ado 14) fsheet3))))))) → va_S A s.heap H locs → lv_has ls 10 [(0, .ref (ad 0)), (6, .int y6_55), (7, .int y7_55)] → W p l e ({ frames := 6, cells := 0, slots := 0, locals := 129 }) s m args below meth c H locs 0 0 Q (F0 m 119 ls [])) (fun z => z = (r, fz, fnowz, ftrialz)) ?_ hlp ?_ _ _ _ hP hD hS (lv_sub hl [4, 6, 7, 8, 3, 2, 1, 0] rfl)
          · clear hlp hf hK hP hD hS hl
            intro K55 hW55 hX55 hO55
            rintro ⟨x6, x7, x8, ftrial_⟩ res hf hK H locs ls hP hD hS hl
            unfold p_X6_read_L55_3 at hf
            dsimp only at hf
            refine lv_iload hx hb dX6_read_55 (lv_at hl 7 rfl) ?_
            refine lv_iload hx hb dX6_read_57 (lv_at hl 3 rfl) ?_
            refine lv_icmp_ge (tgt := 119) hx hb dX6_read_59 (by decide) (fun hc => ?_) (fun hc => ?_)
            · have hf := if_t hf hc
              have hK9 := K_of hf hK
              have hK9 := hX55 _ hK9
              exact hK9 _ _ _ hP hD hS (lv_sub hl [0, 5, 6] rfl)
            · have hf := if_f hf hc
              refine lv_iload hx hb dX6_read_62 (lv_at hl 5 rfl) ?_
              refine lv_if_ne (tgt := 119) hx hb dX6_read_64 (by decide) (fun hc => ?_) (fun hc => ?_)
              · have hf := if_f hf hc
                have hK9 := K_of hf hK
                have hK9 := hX55 _ hK9
                exact hK9 _ _ _ hP hD hS (lv_sub hl [0, 5, 6] rfl)
              · have hf := if_t hf hc
                refine lv_iload_n hx hb dX6_read_67 rfl (lv_at hl 2 rfl) ?_
                refine lv_iconst (v := (nI 4)) hx hb dX6_read_68 (ic_4) ?_
                refine lv_iload hx hb dX6_read_69 (lv_at hl 7 rfl) ?_
                refine lv_imul hx hb dX6_read_71 ?_
                refine lv_iadd hx hb dX6_read_72 ?_
                refine lv_istore (lv' := [(9, .int (x3 + ((nI 4) * x8))), (0, .ref (ad 0)), (2, .int x2), (3, .int x3), (4, .int x4), (5, .ref ((ado 14) 0)), (6, .int x6), (7, .int x7), (8, .int x8)]) hx hb dX6_read_73 hl (by decide) rfl (fun ls hl => ?_)
                refine lv_aload hx hb dX6_read_75 (lv_at hl 5 rfl) ?_
                refine lv_iload_n hx hb dX6_read_77 rfl (lv_at hl 2 rfl) ?_
                refine lv_iload hx hb dX6_read_78 (lv_at hl 0 rfl) ?_
                obtain ⟨r80, hc80, hf⟩ := bd_e hf
                refine cl_i_ro (Wd := (wX6 G ad ado f ++ (wX0 G (ado 1) fnow ++ (wX0 G (ado 2) ftrial_ ++ (wX2 G (ado 11) fsheet0 ++ (wX2 G (ado 12) fsheet1 ++ (wX2 G (ado 13) fsheet2 ++ (wX2 G (ado 14) fsheet3)))))))) (Wc := (wX2 G (ado 14) fsheet3)) [32, 33] rfl (va_runVN (As := [.int x2, .int (x3 + ((nI 4) * x8))]) (rest := []) hC (c_X2_faultOfTrade l G (ado 14) fsheet3 x2 (x3 + ((nI 4) * x8)) r80 hc80 _) ⟨va_cnB 2 hts gX6_read_X2_faultOfTrade_n303 rfl rfl rfl (hE.2.2 (RX6, 303, yX2_faultOfTrade, "FeatherShares") (List.mem_of_getElem? (i := 35) rfl)) (hts (.initialized RX2) (by decide +kernel)) (by decide +kernel) ⟨Nat.le_of_ble_eq_true rfl, Nat.le_of_ble_eq_true rfl⟩, hts (.instanceMethod yX2_faultOfTrade) (by decide +kernel), hts (.selects RX2 yX2_faultOfTrade yX2_faultOfTrade) (by decide +kernel)⟩ ⟨Pc0_blind, va_recv hT hP (q0 := 32) (ci := 2) rfl rfl, fun U hU hW => Pc0_at (Wd := (wX2 G (ado 14) fsheet3)) hE (hP.subm [32, 33] rfl) (hD.sub [32, 33] (by decide) rfl) hU hW⟩ rfl rfl hl.1 rfl (lv_room (Nat.le_of_ble_eq_true rfl)) dX6_read_80 ⟨Nat.zero_le _, Nat.zero_le _⟩) hS hA hP hD (fun H locs hP hD hS => ?_)
                refine lv_istore (lv' := [(6, .int r80), (9, .int (x3 + ((nI 4) * x8))), (0, .ref (ad 0)), (2, .int x2), (3, .int x3), (4, .int x4), (5, .ref ((ado 14) 0)), (7, .int x7), (8, .int x8)]) hx hb dX6_read_83 hl (by decide) rfl (fun ls hl => ?_)
                refine lv_iload hx hb dX6_read_85 (lv_at hl 0 rfl) ?_
                refine lv_if_ne (tgt := 113) hx hb dX6_read_87 (by decide) (fun hc => ?_) (fun hc => ?_)
                · have hf := if_f hf hc
                  refine lv_iinc (v := (x8 + nI 1)) (lv' := [(8, .int (x8 + nI 1)), (6, .int r80), (9, .int (x3 + ((nI 4) * x8))), (0, .ref (ad 0)), (2, .int x2), (3, .int x3), (4, .int x4), (5, .ref ((ado 14) 0)), (7, .int x7)]) hx hb dX6_read_113 hl (k := 8) rfl (ii_x 1 _) (by decide) rfl (fun ls hl => ?_)
                  refine lv_goto (tgt := 55) hx hb dX6_read_116 (by decide) ?_
                  have hK9 := K_of hf hK
                  have hK9 := hW55 _ hK9
                  exact hK9 _ _ _ hP hD hS (lv_sub hl [3, 4, 5, 6, 7, 1, 8, 0] rfl)
                · have hf := if_t hf hc
                  refine lv_aload hx hb dX6_read_90 (lv_at hl 6 rfl) ?_
                  refine lv_iload hx hb dX6_read_92 (lv_at hl 1 rfl) ?_
                  refine lv_aload_n hx hb dX6_read_94 rfl (lv_at hl 2 rfl) ?_
                  refine va_get (C := RX6) (T := TX6) (N := 11) (ci := 6) (v := .ref ((ado 2) 0)) hx hb hts inX6 hown hT hP 0 rfl rfl 1 (Nat.le_of_ble_eq_true rfl) lk16 (fun _ h => h) rfl dX6_read_95 ?_
                  obtain ⟨⟨r98, ftrial_98⟩, hc98, hf⟩ := bd_e hf
                  try dsimp only at hf
                  refine cl_z_up (Wd := (wX6 G ad ado f ++ (wX0 G (ado 1) fnow ++ (wX0 G (ado 2) ftrial_ ++ (wX2 G (ado 11) fsheet0 ++ (wX2 G (ado 12) fsheet1 ++ (wX2 G (ado 13) fsheet2 ++ (wX2 G (ado 14) fsheet3)))))))) (Wc := (wX2 G (ado 14) fsheet3 ++ (wX0 G (ado 2) ftrial_))) (W' := (wX2 G (ado 14) fsheet3 ++ (wX0 G (ado 2) ftrial_98))) (W2 := (wX6 G ad ado f ++ (wX0 G (ado 1) fnow ++ (wX0 G (ado 2) ftrial_98 ++ (wX2 G (ado 11) fsheet0 ++ (wX2 G (ado 12) fsheet1 ++ (wX2 G (ado 13) fsheet2 ++ (wX2 G (ado 14) fsheet3)))))))) [32, 33, 15, 16, 17, 18, 19, 20, 21, 22, 23, 24, 25] [0, 1, 2, 3, 4, 5, 6, 7, 8, 9, 10, 11, 12, 13, 14, 26, 27, 28, 29, 30, 31] rfl rfl rfl rfl rfl (va_runVN (As := [.int (x3 + ((nI 4) * x8)), .ref ((ado 2) 0)]) (rest := []) hC (c_X2_tradeOn l G (ado 14) (ado 2) fsheet3 ftrial_ (x3 + ((nI 4) * x8)) r98 ftrial_98 hc98 _) ⟨va_cnB 2 hts gX6_read_X2_tradeOn_n306 rfl rfl rfl (hE.2.2 (RX6, 306, yX2_tradeOn, "FeatherShares") (List.mem_of_getElem? (i := 36) rfl)) (hts (.initialized RX2) (by decide +kernel)) (by decide +kernel) ⟨Nat.le_of_ble_eq_true rfl, Nat.le_of_ble_eq_true rfl⟩, hts (.instanceMethod yX2_tradeOn) (by decide +kernel), hts (.selects RX2 yX2_tradeOn yX2_tradeOn) (by decide +kernel)⟩ ⟨Pc0_blind, va_recv hT hP (q0 := 32) (ci := 2) rfl rfl, fun U hU hW => Pc0_at (Wd := (wX2 G (ado 14) fsheet3 ++ (wX0 G (ado 2) ftrial_))) hE (hP.subm [32, 33, 15, 16, 17, 18, 19, 20, 21, 22, 23, 24, 25] rfl) (hD.sub [32, 33, 15, 16, 17, 18, 19, 20, 21, 22, 23, 24, 25] (by decide) rfl) hU hW⟩ rfl rfl hl.1 rfl (lv_room (Nat.le_of_ble_eq_true rfl)) dX6_read_98 ⟨Nat.zero_le _, Nat.zero_le _⟩) hS hA hP hD (fun H locs hn98 hP hD hS => ?_)
                  refine lv_if_ne (tgt := 110) hx hb dX6_read_101 (by decide) (fun hc => ?_) (fun hc => ?_)
                  · have hf := if_f hf hc
                    refine lv_iinc (v := (x7 + nI 1)) (lv' := [(7, .int (x7 + nI 1)), (6, .int r80), (9, .int (x3 + ((nI 4) * x8))), (0, .ref (ad 0)), (2, .int x2), (3, .int x3), (4, .int x4), (5, .ref ((ado 14) 0)), (8, .int x8)]) hx hb dX6_read_110 hl (k := 7) rfl (ii_x 1 _) (by decide) rfl (fun ls hl => ?_)
                    refine lv_iinc (v := (x8 + nI 1)) (lv' := [(8, .int (x8 + nI 1)), (7, .int (x7 + nI 1)), (6, .int r80), (9, .int (x3 + ((nI 4) * x8))), (0, .ref (ad 0)), (2, .int x2), (3, .int x3), (4, .int x4), (5, .ref ((ado 14) 0))]) hx hb dX6_read_113 hl (k := 8) rfl (ii_x 1 _) (by decide) rfl (fun ls hl => ?_)
                    refine lv_goto (tgt := 55) hx hb dX6_read_116 (by decide) ?_
                    have hK9 := K_of hf hK
                    have hK9 := hW55 _ hK9
                    exact hK9 _ _ _ hP hD hS (lv_sub hl [4, 5, 6, 7, 8, 2, 1, 0] rfl)
                  · have hf := if_t hf hc
                    refine lv_bipush (v := (-20 : Int32)) hx hb dX6_read_104 (bi_m20) ?_
                    refine lv_iload hx hb dX6_read_106 (lv_at hl 8 rfl) ?_
                    refine lv_isub hx hb dX6_read_108 ?_
                    have hK9 := K_of hf hK
                    have hK9 := hO55 _ hK9
                    exact hRet ((-20 : Int32) - x8) f fnow ftrial_98 _ _ _ _ hK9 dX6_read_109 hP hD hS
          · rcases ze with ⟨y6_55, y7_55, ftrial_55⟩ | zo
            · try simp only [Sum.elim_inl] at hf
              try dsimp only at hf
              show ∀ (H : Heap) (locs : List Loc) (ls : Array Slot), va_P G.1 vwCl (wX6 G ad ado f ++ (wX0 G (ado 1) fnow ++ (wX0 G (ado 2) ftrial_55 ++ (wX2 G (ado 11) fsheet0 ++ (wX2 G (ado 12) fsheet1 ++ (wX2 G (ado 13) fsheet2 ++ (wX2 G (ado 14) fsheet3))))))) H → va_D A (wX6 G ad ado f ++ (wX0 G (ado 1) fnow ++ (wX0 G (ado 2) ftrial_55 ++ (wX2 G (ado 11) fsheet0 ++ (wX2 G (ado 12) fsheet1 ++ (wX2 G (ado 13) fsheet2 ++ (wX2 G (ado 14) fsheet3))))))) → va_S A s.heap H locs → lv_has ls 10 [(0, .ref (ad 0)), (6, .int y6_55), (7, .int y7_55)] → W p l e ({ frames := 6, cells := 0, slots := 0, locals := 129 }) s m args below meth c H locs 0 0 Q (F0 m 119 ls [])
              intro H locs ls hP hD hS hl
              exact hB119 f fnow ftrial_55 fsheet0 fsheet1 fsheet2 fsheet3 y6_55 y7_55 _ hf hK _ _ _ hP hD hS (lv_sub hl [0, 1, 2] rfl)
            · have hK9 := K0_of (show some zo = some _ from hf) hK
              exact hK9
        rw [if_neg hc32] at hf
        cases hf
      · have hf := if_t hf hc
        refine lv_iconst (v := (-1 : Int32)) hx hb dX6_read_25 (ic_m1) ?_
        have hK9 := K0_of hf hK
        exact hRet (-1 : Int32) f fnow ftrial _ _ _ _ hK9 dX6_read_26 hP hD hS
noncomputable def p_X6_torn (f : Mem) : Option (Int32) :=
  some (f 0 1)
set_option maxHeartbeats 4000000 in
set_option maxRecDepth 100000 in
theorem c_X6_torn (l : Launch) (G : Gt) (ad : Nat → Nat) (ado : Nat → Nat → Nat) (f : Mem) (r : Int32) (hf : p_X6_torn f = some r) (sz : Nat) : Met l yX6_torn wsX6_torn ({ frames := 1, cells := 0, slots := 0, locals := 12 }) (Pc0 G sz [.ref (ad 0)] (wX6 G ad ado f)) (Qi0 G (va_A (wX6 G ad ado f) sz) r (wX6 G ad ado f)) 0 0 (va_A (wX6 G ad ado f) sz) := by
  refine metP (Qf := fun A => Qi0 G A r (wX6 G ad ado f)) cX6_torn 1 (some .int) (by decide) rfl (Nat.le_of_ble_eq_true rfl) ?_
  intro p e s m below meth c A ls hC hr hlocks hin hE hA hsz hP hD hS hl
  generalize hargs : ([.ref (ad 0)] : List Value).toArray = args at hC ⊢
  obtain ⟨hx, hb, hml, hown, hts⟩ := id hC
  have hT : va_K G.1 vwCl (tyL G) s := hE.1
  have hRet : ∀ (r9 : Int32) (H : Heap) (locs : List Loc) (ls : Array Slot) (pc : Nat) (hK9 : r9 = r) (hdg : decode cX6_torn pc = .ok (.ireturn, 1)), va_P G.1 vwCl (wX6 G ad ado f) H → va_D A (wX6 G ad ado f) → va_S A s.heap H locs → W p l e ({ frames := 1, cells := 0, slots := 0, locals := 12 }) s m args below meth c H locs 0 0 (MQ below (Qi0 G A r (wX6 G ad ado f)) args s 0 0 A) (F0 m pc ls [.int r9]) := by
    intro r9 H locs ls pc hK9 hdg hP hD hS
    cases hK9
    exact W.iret hx hb hr (fun t ht hW => ⟨⟨r, (), rfl, rfl, by rw [ht]; exact hP, hD⟩, hS.F ht⟩) hS.2.2 hdg hlocks
  generalize MQ below (Qi0 G A r (wX6 G ad ado f)) args s 0 0 A = Q at hRet ⊢
  have lk65 := hts (.fieldLink RX6 65 "FeatherShares" "faultOfRead" "I") (by decide +kernel)
  have inX6 : ∀ w ∈ u_ws RX6 TX6 11, w ∈ wsX6_torn := by decide +kernel
  have hl : lv_has ls 1 [(0, .ref (ad 0))] := hl
  have hK0 : r = r := rfl
  obtain ⟨res, hres, hK⟩ : ∃ res, p_X6_torn f = some res ∧ res = r := ⟨_, hf, rfl⟩
  clear hf
  have hf := hres
  clear hres
  unfold p_X6_torn at hf
  refine lv_aload_n hx hb dX6_torn_0 rfl (lv_at hl 0 rfl) ?_
  refine va_get (C := RX6) (T := TX6) (N := 11) (ci := 6) (v := .int (f 0 1)) hx hb hts inX6 hown hT hP 0 rfl rfl 10 (Nat.le_of_ble_eq_true rfl) lk65 (fun _ h => h) rfl dX6_torn_1 ?_
  have hK9 := K0_of hf hK
  exact hRet (f 0 1) _ _ _ _ hK9 dX6_torn_4 hP hD hS
noncomputable def p_X6_count (f : Mem) (fnow : Mem) (ftape : Mem) (fsightings : Mem) (fsheet0 : Mem) (fsheet1 : Mem) (fsheet2 : Mem) (fsheet3 : Mem) (x1 : Int32) : Option (Int32) :=
  if x1 = (nI 0) then
    (some (fsightings 0 0))
  else if x1 = (nI 1) then
    (Option.bind (p_J6_bitCount_0f7a4 (f 0 0)) <| fun r52 =>
     some r52)
  else if x1 = (nI 2) then
    (some (ftape 0 0))
  else if x1 = (nI 3) then
    (if (fsheet0 0 0) = 0 then
       (some (fsheet0 0 2))
     else
       (some (-4 : Int32)))
  else if x1 = (nI 4) then
    (Option.bind (p_X6_sumOf 15 (fnow 4)) <| fun r98 =>
     some r98)
  else if x1 = (nI 5) then
    (Option.bind (p_X0_feathersOfPlan fnow) <| fun r106 =>
     some r106)
  else
    (some (-1 : Int32))
set_option maxHeartbeats 4000000 in
set_option maxRecDepth 100000 in
theorem c_X6_count (l : Launch) (G : Gt) (ad : Nat → Nat) (ado : Nat → Nat → Nat) (f : Mem) (fnow : Mem) (ftape : Mem) (fsightings : Mem) (fsheet0 : Mem) (fsheet1 : Mem) (fsheet2 : Mem) (fsheet3 : Mem) (x1 : Int32) (r : Int32) (hf : p_X6_count f fnow ftape fsightings fsheet0 fsheet1 fsheet2 fsheet3 x1 = some r) (sz : Nat) : Met l yX6_count wsX6_count ({ frames := 2, cells := 0, slots := 0, locals := 37 }) (Pc0 G sz [.ref (ad 0), .int x1] (wX6 G ad ado f ++ (wX0 G (ado 1) fnow ++ (wX4 G (ado 5) ftape ++ (wX3 G (ado 8) fsightings ++ (wX2 G (ado 11) fsheet0 ++ (wX2 G (ado 12) fsheet1 ++ (wX2 G (ado 13) fsheet2 ++ (wX2 G (ado 14) fsheet3))))))))) (Qi0 G (va_A (wX6 G ad ado f ++ (wX0 G (ado 1) fnow ++ (wX4 G (ado 5) ftape ++ (wX3 G (ado 8) fsightings ++ (wX2 G (ado 11) fsheet0 ++ (wX2 G (ado 12) fsheet1 ++ (wX2 G (ado 13) fsheet2 ++ (wX2 G (ado 14) fsheet3)))))))) sz) r (wX6 G ad ado f ++ (wX0 G (ado 1) fnow ++ (wX4 G (ado 5) ftape ++ (wX3 G (ado 8) fsightings ++ (wX2 G (ado 11) fsheet0 ++ (wX2 G (ado 12) fsheet1 ++ (wX2 G (ado 13) fsheet2 ++ (wX2 G (ado 14) fsheet3))))))))) 0 0 (va_A (wX6 G ad ado f ++ (wX0 G (ado 1) fnow ++ (wX4 G (ado 5) ftape ++ (wX3 G (ado 8) fsightings ++ (wX2 G (ado 11) fsheet0 ++ (wX2 G (ado 12) fsheet1 ++ (wX2 G (ado 13) fsheet2 ++ (wX2 G (ado 14) fsheet3)))))))) sz) := by
  refine metP (Qf := fun A => Qi0 G A r (wX6 G ad ado f ++ (wX0 G (ado 1) fnow ++ (wX4 G (ado 5) ftape ++ (wX3 G (ado 8) fsightings ++ (wX2 G (ado 11) fsheet0 ++ (wX2 G (ado 12) fsheet1 ++ (wX2 G (ado 13) fsheet2 ++ (wX2 G (ado 14) fsheet3))))))))) cX6_count 2 (some .int) (by decide) rfl (Nat.le_of_ble_eq_true rfl) ?_
  intro p e s m below meth c A ls hC hr hlocks hin hE hA hsz hP hD hS hl
  generalize hargs : ([.ref (ad 0), .int x1] : List Value).toArray = args at hC ⊢
  obtain ⟨hx, hb, hml, hown, hts⟩ := id hC
  have hT : va_K G.1 vwCl (tyL G) s := hE.1
  have hRet : ∀ (r9 : Int32) (H : Heap) (locs : List Loc) (ls : Array Slot) (pc : Nat) (hK9 : r9 = r) (hdg : decode cX6_count pc = .ok (.ireturn, 1)), va_P G.1 vwCl (wX6 G ad ado f ++ (wX0 G (ado 1) fnow ++ (wX4 G (ado 5) ftape ++ (wX3 G (ado 8) fsightings ++ (wX2 G (ado 11) fsheet0 ++ (wX2 G (ado 12) fsheet1 ++ (wX2 G (ado 13) fsheet2 ++ (wX2 G (ado 14) fsheet3)))))))) H → va_D A (wX6 G ad ado f ++ (wX0 G (ado 1) fnow ++ (wX4 G (ado 5) ftape ++ (wX3 G (ado 8) fsightings ++ (wX2 G (ado 11) fsheet0 ++ (wX2 G (ado 12) fsheet1 ++ (wX2 G (ado 13) fsheet2 ++ (wX2 G (ado 14) fsheet3)))))))) → va_S A s.heap H locs → W p l e ({ frames := 2, cells := 0, slots := 0, locals := 37 }) s m args below meth c H locs 0 0 (MQ below (Qi0 G A r (wX6 G ad ado f ++ (wX0 G (ado 1) fnow ++ (wX4 G (ado 5) ftape ++ (wX3 G (ado 8) fsightings ++ (wX2 G (ado 11) fsheet0 ++ (wX2 G (ado 12) fsheet1 ++ (wX2 G (ado 13) fsheet2 ++ (wX2 G (ado 14) fsheet3))))))))) args s 0 0 A) (F0 m pc ls [.int r9]) := by
    intro r9 H locs ls pc hK9 hdg hP hD hS
    cases hK9
    exact W.iret hx hb hr (fun t ht hW => ⟨⟨r, (), rfl, rfl, by rw [ht]; exact hP, hD⟩, hS.F ht⟩) hS.2.2 hdg hlocks
  generalize MQ below (Qi0 G A r (wX6 G ad ado f ++ (wX0 G (ado 1) fnow ++ (wX4 G (ado 5) ftape ++ (wX3 G (ado 8) fsightings ++ (wX2 G (ado 11) fsheet0 ++ (wX2 G (ado 12) fsheet1 ++ (wX2 G (ado 13) fsheet2 ++ (wX2 G (ado 14) fsheet3))))))))) args s 0 0 A = Q at hRet ⊢
  have lk44 := hts (.fieldLink RX6 44 "FeatherShares" "sightings" "LFeatherShares$Sightings;") (by decide +kernel)
  have inX6 : ∀ w ∈ u_ws RX6 TX6 11, w ∈ wsX6_count := by decide +kernel
  have lk97 := va_Nw.use (A := args) rfl (hE.2.1 (RX6, 97, "FeatherShares$Sightings", "size", "I", "FeatherShares") (List.mem_of_getElem? (i := 4) rfl))
  have inX3 : ∀ w ∈ u_ws RX3 TX3 5, w ∈ wsX6_count := by decide +kernel
  have lk23 := hts (.fieldLink RX6 23 "FeatherShares" "keptImages" "I") (by decide +kernel)
  have lk30 := hts (.fieldLink RX6 30 "FeatherShares" "tape" "LFeatherShares$Tape;") (by decide +kernel)
  have lk77 := va_Nw.use (A := args) rfl (hE.2.1 (RX6, 77, "FeatherShares$Tape", "length", "I", "FeatherShares") (List.mem_of_getElem? (i := 0) rfl))
  have inX4 : ∀ w ∈ u_ws RX4 TX4 6, w ∈ wsX6_count := by decide +kernel
  have lk61 := hts (.fieldLink RX6 61 "FeatherShares" "sheets" "[LFeatherShares$Sheet;") (by decide +kernel)
  have lk310 := va_Nw.use (A := args) rfl (hE.2.1 (RX6, 310, "FeatherShares$Sheet", "isNothing", "Z", "FeatherShares") (List.mem_of_getElem? (i := 24) rfl))
  have inX2 : ∀ w ∈ u_ws RX2 TX2 4, w ∈ wsX6_count := by decide +kernel
  have lk314 := va_Nw.use (A := args) rfl (hE.2.1 (RX6, 314, "FeatherShares$Sheet", "size", "I", "FeatherShares") (List.mem_of_getElem? (i := 25) rfl))
  have lk12 := hts (.fieldLink RX6 12 "FeatherShares" "now" "LFeatherShares$Flock;") (by decide +kernel)
  have lk171 := va_Nw.use (A := args) rfl (hE.2.1 (RX6, 171, "FeatherShares$Flock", "feathers", "[I", "FeatherShares") (List.mem_of_getElem? (i := 18) rfl))
  have inX0 : ∀ w ∈ u_ws RX0 TX0 13, w ∈ wsX6_count := by decide +kernel
  have hl : lv_has ls 2 [(0, .ref (ad 0)), (1, .int x1)] := hl
  have hK0 : r = r := rfl
  obtain ⟨res, hres, hK⟩ : ∃ res, p_X6_count f fnow ftape fsightings fsheet0 fsheet1 fsheet2 fsheet3 x1 = some res ∧ res = r := ⟨_, hf, rfl⟩
  clear hf
  have hf := hres
  clear hres
  unfold p_X6_count at hf
  refine lv_iload_n hx hb dX6_count_0 rfl (lv_at hl 1 rfl) ?_
  by_cases hs0 : x1 = (nI 0)
  · have hf := if_t hf hs0
    refine lv_tableIn (tgt := 40) hx hb dX6_count_1 (by rw [hs0]; decide) (by rw [hs0]; decide) (by rw [hs0]; rfl) (by decide) ?_
    refine lv_aload_n hx hb dX6_count_40 rfl (lv_at hl 0 rfl) ?_
    refine va_get (C := RX6) (T := TX6) (N := 11) (ci := 6) (v := .ref ((ado 8) 0)) hx hb hts inX6 hown hT hP 0 rfl rfl 6 (Nat.le_of_ble_eq_true rfl) lk44 (fun _ h => h) rfl dX6_count_41 ?_
    refine va_getN (C := RX3) (T := TX3) (N := 5) (ci := 3) (v := .int (fsightings 0 0)) hx hb hts inX3 hown hT hP 17 rfl rfl 0 (Nat.le_of_ble_eq_true rfl) lk97 (fun _ h => h) rfl dX6_count_44 ?_
    have hK9 := K0_of hf hK
    exact hRet (fsightings 0 0) _ _ _ _ hK9 dX6_count_47 hP hD hS
  have hf := if_f hf hs0
  by_cases hs1 : x1 = (nI 1)
  · have hf := if_t hf hs1
    refine lv_tableIn (tgt := 48) hx hb dX6_count_1 (by rw [hs1]; decide) (by rw [hs1]; decide) (by rw [hs1]; rfl) (by decide) ?_
    refine lv_aload_n hx hb dX6_count_48 rfl (lv_at hl 0 rfl) ?_
    refine va_get (C := RX6) (T := TX6) (N := 11) (ci := 6) (v := .int (f 0 0)) hx hb hts inX6 hown hT hP 0 rfl rfl 3 (Nat.le_of_ble_eq_true rfl) lk23 (fun _ h => h) rfl dX6_count_49 ?_
    obtain ⟨r52, hc52, hf⟩ := bd_e hf
    refine cl_i_ro (Wd := (wX6 G ad ado f ++ (wX0 G (ado 1) fnow ++ (wX4 G (ado 5) ftape ++ (wX3 G (ado 8) fsightings ++ (wX2 G (ado 11) fsheet0 ++ (wX2 G (ado 12) fsheet1 ++ (wX2 G (ado 13) fsheet2 ++ (wX2 G (ado 14) fsheet3))))))))) (Wc := ([] : va_W)) [] rfl (va_runS (As := [.int (f 0 0)]) (rest := []) hC (c_J6_bitCount_0f7a4 l G (f 0 0) r52 hc52 _) (va_cwS 1 hts gX6_count_J6_bitCount_0f7a4 rfl rfl rfl (by decide +kernel) ⟨Nat.le_of_ble_eq_true rfl, Nat.le_of_ble_eq_true rfl⟩) ⟨Pc0_blind, fun U hU hW => Pc0_at (Wd := ([] : va_W)) hE (hP.subm [] rfl) (hD.sub [] (by decide) rfl) hU hW⟩ rfl rfl hl.1 rfl (lv_room (Nat.le_of_ble_eq_true rfl)) dX6_count_52 ⟨Nat.zero_le _, Nat.zero_le _⟩) hS hA hP hD (fun H locs hP hD hS => ?_)
    have hK9 := K0_of hf hK
    exact hRet r52 _ _ _ _ hK9 dX6_count_55 hP hD hS
  have hf := if_f hf hs1
  by_cases hs2 : x1 = (nI 2)
  · have hf := if_t hf hs2
    refine lv_tableIn (tgt := 56) hx hb dX6_count_1 (by rw [hs2]; decide) (by rw [hs2]; decide) (by rw [hs2]; rfl) (by decide) ?_
    refine lv_aload_n hx hb dX6_count_56 rfl (lv_at hl 0 rfl) ?_
    refine va_get (C := RX6) (T := TX6) (N := 11) (ci := 6) (v := .ref ((ado 5) 0)) hx hb hts inX6 hown hT hP 0 rfl rfl 4 (Nat.le_of_ble_eq_true rfl) lk30 (fun _ h => h) rfl dX6_count_57 ?_
    refine va_getN (C := RX4) (T := TX4) (N := 6) (ci := 4) (v := .int (ftape 0 0)) hx hb hts inX4 hown hT hP 15 rfl rfl 1 (Nat.le_of_ble_eq_true rfl) lk77 (fun _ h => h) rfl dX6_count_60 ?_
    have hK9 := K0_of hf hK
    exact hRet (ftape 0 0) _ _ _ _ hK9 dX6_count_63 hP hD hS
  have hf := if_f hf hs2
  by_cases hs3 : x1 = (nI 3)
  · have hf := if_t hf hs3
    refine lv_tableIn (tgt := 64) hx hb dX6_count_1 (by rw [hs3]; decide) (by rw [hs3]; decide) (by rw [hs3]; rfl) (by decide) ?_
    refine lv_aload_n hx hb dX6_count_64 rfl (lv_at hl 0 rfl) ?_
    refine va_get (C := RX6) (T := TX6) (N := 11) (ci := 6) (v := .ref (ad 3)) hx hb hts inX6 hown hT hP 0 rfl rfl 9 (Nat.le_of_ble_eq_true rfl) lk61 (fun _ h => h) rfl dX6_count_65 ?_
    refine lv_iconst (v := (nI 0)) hx hb dX6_count_68 (ic_0) ?_
    refine va_aldq hx hb hT hP 3 3 rfl rfl (vp_in_nI (by decide) (by decide)) dX6_count_69 ?_
    refine W.eq (g2 := F0 m 70 ls [.ref ((ado 11) 0)]) rfl ?_
    refine va_getN (C := RX2) (T := TX2) (N := 4) (ci := 2) (v := .int (fsheet0 0 0)) hx hb hts inX2 hown hT hP 22 rfl rfl 1 (Nat.le_of_ble_eq_true rfl) lk310 (fun _ h => h) rfl dX6_count_70 ?_
    refine lv_if_eq (tgt := 81) hx hb dX6_count_73 (by decide) (fun hc => ?_) (fun hc => ?_)
    · have hf := if_t hf hc
      refine lv_aload_n hx hb dX6_count_81 rfl (lv_at hl 0 rfl) ?_
      refine va_get (C := RX6) (T := TX6) (N := 11) (ci := 6) (v := .ref (ad 3)) hx hb hts inX6 hown hT hP 0 rfl rfl 9 (Nat.le_of_ble_eq_true rfl) lk61 (fun _ h => h) rfl dX6_count_82 ?_
      refine lv_iconst (v := (nI 0)) hx hb dX6_count_85 (ic_0) ?_
      refine va_aldq hx hb hT hP 3 3 rfl rfl (vp_in_nI (by decide) (by decide)) dX6_count_86 ?_
      refine W.eq (g2 := F0 m 87 ls [.ref ((ado 11) 0)]) rfl ?_
      refine va_getN (C := RX2) (T := TX2) (N := 4) (ci := 2) (v := .int (fsheet0 0 2)) hx hb hts inX2 hown hT hP 22 rfl rfl 3 (Nat.le_of_ble_eq_true rfl) lk314 (fun _ h => h) rfl dX6_count_87 ?_
      have hK9 := K0_of hf hK
      exact hRet (fsheet0 0 2) _ _ _ _ hK9 dX6_count_90 hP hD hS
    · have hf := if_f hf hc
      refine lv_bipush (v := (-4 : Int32)) hx hb dX6_count_76 (bi_m4) ?_
      refine lv_goto (tgt := 90) hx hb dX6_count_78 (by decide) ?_
      have hK9 := K0_of hf hK
      exact hRet (-4 : Int32) _ _ _ _ hK9 dX6_count_90 hP hD hS
  have hf := if_f hf hs3
  by_cases hs4 : x1 = (nI 4)
  · have hf := if_t hf hs4
    refine lv_tableIn (tgt := 91) hx hb dX6_count_1 (by rw [hs4]; decide) (by rw [hs4]; decide) (by rw [hs4]; rfl) (by decide) ?_
    refine lv_aload_n hx hb dX6_count_91 rfl (lv_at hl 0 rfl) ?_
    refine va_get (C := RX6) (T := TX6) (N := 11) (ci := 6) (v := .ref ((ado 1) 0)) hx hb hts inX6 hown hT hP 0 rfl rfl 0 (Nat.le_of_ble_eq_true rfl) lk12 (fun _ h => h) rfl dX6_count_92 ?_
    refine va_getN (C := RX0) (T := TX0) (N := 13) (ci := 0) (v := .ref ((ado 1) 4)) hx hb hts inX0 hown hT hP 4 rfl rfl 6 (Nat.le_of_ble_eq_true rfl) lk171 (fun _ h => h) rfl dX6_count_95 ?_
    obtain ⟨r98, hc98, hf⟩ := bd_e hf
    refine cl_i_ro (Wd := (wX6 G ad ado f ++ (wX0 G (ado 1) fnow ++ (wX4 G (ado 5) ftape ++ (wX3 G (ado 8) fsightings ++ (wX2 G (ado 11) fsheet0 ++ (wX2 G (ado 12) fsheet1 ++ (wX2 G (ado 13) fsheet2 ++ (wX2 G (ado 14) fsheet3))))))))) (Wc := (wRow G ((ado 1) 4) 15 (fnow 4))) [8] rfl (va_runS (As := [.ref ((ado 1) 4)]) (rest := []) hC (c_X6_sumOf l G ((ado 1) 4) 15 (fnow 4) r98 hc98 _) (va_cwS 1 hts gX6_count_X6_sumOf rfl rfl rfl (by decide +kernel) ⟨Nat.le_of_ble_eq_true rfl, Nat.le_of_ble_eq_true rfl⟩) ⟨Pc0_blind, fun U hU hW => Pc0_at (Wd := (wRow G ((ado 1) 4) 15 (fnow 4))) hE (hP.subm [8] rfl) (hD.sub [8] (by decide) rfl) hU hW⟩ rfl rfl hl.1 rfl (lv_room (Nat.le_of_ble_eq_true rfl)) dX6_count_98 ⟨Nat.zero_le _, Nat.zero_le _⟩) hS hA hP hD (fun H locs hP hD hS => ?_)
    have hK9 := K0_of hf hK
    exact hRet r98 _ _ _ _ hK9 dX6_count_101 hP hD hS
  have hf := if_f hf hs4
  by_cases hs5 : x1 = (nI 5)
  · have hf := if_t hf hs5
    refine lv_tableIn (tgt := 102) hx hb dX6_count_1 (by rw [hs5]; decide) (by rw [hs5]; decide) (by rw [hs5]; rfl) (by decide) ?_
    refine lv_aload_n hx hb dX6_count_102 rfl (lv_at hl 0 rfl) ?_
    refine va_get (C := RX6) (T := TX6) (N := 11) (ci := 6) (v := .ref ((ado 1) 0)) hx hb hts inX6 hown hT hP 0 rfl rfl 0 (Nat.le_of_ble_eq_true rfl) lk12 (fun _ h => h) rfl dX6_count_103 ?_
    obtain ⟨r106, hc106, hf⟩ := bd_e hf
    refine cl_i_ro (Wd := (wX6 G ad ado f ++ (wX0 G (ado 1) fnow ++ (wX4 G (ado 5) ftape ++ (wX3 G (ado 8) fsightings ++ (wX2 G (ado 11) fsheet0 ++ (wX2 G (ado 12) fsheet1 ++ (wX2 G (ado 13) fsheet2 ++ (wX2 G (ado 14) fsheet3))))))))) (Wc := (wX0 G (ado 1) fnow)) [4, 5, 6, 7, 8, 9, 10, 11, 12, 13, 14] rfl (va_runVN (As := []) (rest := []) hC (c_X0_feathersOfPlan l G (ado 1) fnow r106 hc106 _) ⟨va_cnB 0 hts gX6_count_X0_feathersOfPlan_n315 rfl rfl rfl (hE.2.2 (RX6, 315, yX0_feathersOfPlan, "FeatherShares") (List.mem_of_getElem? (i := 37) rfl)) (hts (.initialized RX0) (by decide +kernel)) (by decide +kernel) ⟨Nat.le_of_ble_eq_true rfl, Nat.le_of_ble_eq_true rfl⟩, hts (.instanceMethod yX0_feathersOfPlan) (by decide +kernel), hts (.selects RX0 yX0_feathersOfPlan yX0_feathersOfPlan) (by decide +kernel)⟩ ⟨Pc0_blind, va_recv hT hP (q0 := 4) (ci := 0) rfl rfl, fun U hU hW => Pc0_at (Wd := (wX0 G (ado 1) fnow)) hE (hP.subm [4, 5, 6, 7, 8, 9, 10, 11, 12, 13, 14] rfl) (hD.sub [4, 5, 6, 7, 8, 9, 10, 11, 12, 13, 14] (by decide) rfl) hU hW⟩ rfl rfl hl.1 rfl (lv_room (Nat.le_of_ble_eq_true rfl)) dX6_count_106 ⟨Nat.zero_le _, Nat.zero_le _⟩) hS hA hP hD (fun H locs hP hD hS => ?_)
    have hK9 := K0_of hf hK
    exact hRet r106 _ _ _ _ hK9 dX6_count_109 hP hD hS
  have hf := if_f hf hs5
  have hout : x1.toInt < 0 ∨ 5 < x1.toInt := by
    have t0 := ne_int hs0 (by decide)
    have t1 := ne_int hs1 (by decide)
    have t2 := ne_int hs2 (by decide)
    have t3 := ne_int hs3 (by decide)
    have t4 := ne_int hs4 (by decide)
    have t5 := ne_int hs5 (by decide)
    omega
  refine lv_tableOut (tgt := 110) hx hb dX6_count_1 hout (by decide) ?_
  refine lv_iconst (v := (-1 : Int32)) hx hb dX6_count_110 (ic_m1) ?_
  have hK9 := K0_of hf hK
  exact hRet (-1 : Int32) _ _ _ _ hK9 dX6_count_111 hP hD hS
