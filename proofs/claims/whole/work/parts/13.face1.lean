noncomputable def p_X6_feed (f : Mem) (ftape : Mem) (x1 : Int32) : Option (Int32 × Mem) :=
  Option.bind (p_X6_isWithin x1 (nI 0) (nI 127)) <| fun r4 =>
  if r4 = 0 then
    (some ((-1 : Int32), ftape))
  else
    (Option.bind (p_X4_append ftape x1) <| fun (r17, ftape_17) =>
     if r17 = 0 then
       (some ((-3 : Int32), ftape_17))
     else
       (some ((ftape_17 0 0), ftape_17)))
set_option maxHeartbeats 4000000 in
set_option maxRecDepth 100000 in
theorem c_X6_feed (l : Launch) (G : Gt) (ad : Nat → Nat) (ado : Nat → Nat → Nat) (f : Mem) (ftape : Mem) (x1 : Int32) (r : Int32) (ftapez : Mem) (hf : p_X6_feed f ftape x1 = some (r, ftapez)) (sz : Nat) : Met l yX6_feed wsX6_feed ({ frames := 2, cells := 0, slots := 0, locals := 34 }) (Pc0 G sz [.ref (ad 0), .int x1] (wX6 G ad ado f ++ (wX4 G (ado 5) ftape))) (Qi0 G (va_A (wX6 G ad ado f ++ (wX4 G (ado 5) ftape)) sz) r (wX6 G ad ado f ++ (wX4 G (ado 5) ftapez))) 0 0 (va_A (wX6 G ad ado f ++ (wX4 G (ado 5) ftape)) sz) := by
  refine metP (Qf := fun A => Qi0 G A r (wX6 G ad ado f ++ (wX4 G (ado 5) ftapez))) cX6_feed 2 (some .int) (by decide) rfl (Nat.le_of_ble_eq_true rfl) ?_
  intro p e s m below meth c A ls hC hr hlocks hin hE hA hsz hP hD hS hl
  generalize hargs : ([.ref (ad 0), .int x1] : List Value).toArray = args at hC ⊢
  obtain ⟨hx, hb, hml, hown, hts⟩ := id hC
  have hT : va_K G.1 vwCl (tyL G) s := hE.1
  have hRet : ∀ (r9 : Int32) (ftape9 : Mem) (H : Heap) (locs : List Loc) (ls : Array Slot) (pc : Nat) (hK9 : (r9, ftape9) = (r, ftapez)) (hdg : decode cX6_feed pc = .ok (.ireturn, 1)), va_P G.1 vwCl (wX6 G ad ado f ++ (wX4 G (ado 5) ftape9)) H → va_D A (wX6 G ad ado f ++ (wX4 G (ado 5) ftape9)) → va_S A s.heap H locs → W p l e ({ frames := 2, cells := 0, slots := 0, locals := 34 }) s m args below meth c H locs 0 0 (MQ below (Qi0 G A r (wX6 G ad ado f ++ (wX4 G (ado 5) ftapez))) args s 0 0 A) (F0 m pc ls [.int r9]) := by
    intro r9 ftape9 H locs ls pc hK9 hdg hP hD hS
    cases hK9
    exact W.iret hx hb hr (fun t ht hW => ⟨⟨r, (), rfl, rfl, by rw [ht]; exact hP, hD⟩, hS.F ht⟩) hS.2.2 hdg hlocks
  generalize MQ below (Qi0 G A r (wX6 G ad ado f ++ (wX4 G (ado 5) ftapez))) args s 0 0 A = Q at hRet ⊢
  have lk30 := hts (.fieldLink RX6 30 "FeatherShares" "tape" "LFeatherShares$Tape;") (by decide +kernel)
  have inX6 : ∀ w ∈ u_ws RX6 TX6 11, w ∈ wsX6_feed := by decide +kernel
  have lk77 := va_Nw.use (A := args) rfl (hE.2.1 (RX6, 77, "FeatherShares$Tape", "length", "I", "FeatherShares") (List.mem_of_getElem? (i := 0) rfl))
  have inX4 : ∀ w ∈ u_ws RX4 TX4 6, w ∈ wsX6_feed := by decide +kernel
  have hl : lv_has ls 2 [(0, .ref (ad 0)), (1, .int x1)] := hl
  have hK0 : (r, ftapez) = (r, ftapez) := rfl
  obtain ⟨res, hres, hK⟩ : ∃ res, p_X6_feed f ftape x1 = some res ∧ res = (r, ftapez) := ⟨_, hf, rfl⟩
  clear hf
  have hf := hres
  clear hres
  unfold p_X6_feed at hf
  refine lv_iload_n hx hb dX6_feed_0 rfl (lv_at hl 1 rfl) ?_
  refine lv_iconst (v := (nI 0)) hx hb dX6_feed_1 (ic_0) ?_
  refine lv_bipush (v := (nI 127)) hx hb dX6_feed_2 (bi_127) ?_
  obtain ⟨r4, hc4, hf⟩ := bd_e hf
  refine cl_z_ro (Wd := (wX6 G ad ado f ++ (wX4 G (ado 5) ftape))) (Wc := ([] : va_W)) [] rfl (va_runS (As := [.int x1, .int (nI 0), .int (nI 127)]) (rest := []) hC (c_X6_isWithin l G x1 (nI 0) (nI 127) r4 hc4 _) (va_cwS 3 hts gX6_feed_X6_isWithin rfl rfl rfl (by decide +kernel) ⟨Nat.le_of_ble_eq_true rfl, Nat.le_of_ble_eq_true rfl⟩) ⟨Pc0_blind, fun U hU hW => Pc0_at (Wd := ([] : va_W)) hE (hP.subm [] rfl) (hD.sub [] (by decide) rfl) hU hW⟩ rfl rfl hl.1 rfl (lv_room (Nat.le_of_ble_eq_true rfl)) dX6_feed_4 ⟨Nat.zero_le _, Nat.zero_le _⟩) hS hA hP hD (fun H locs hn4 hP hD hS => ?_)
  refine lv_if_ne (tgt := 12) hx hb dX6_feed_7 (by decide) (fun hc => ?_) (fun hc => ?_)
  · have hf := if_f hf hc
    refine lv_aload_n hx hb dX6_feed_12 rfl (lv_at hl 0 rfl) ?_
    refine va_get (C := RX6) (T := TX6) (N := 11) (ci := 6) (v := .ref ((ado 5) 0)) hx hb hts inX6 hown hT hP 0 rfl rfl 4 (Nat.le_of_ble_eq_true rfl) lk30 (fun _ h => h) rfl dX6_feed_13 ?_
    refine lv_iload_n hx hb dX6_feed_16 rfl (lv_at hl 1 rfl) ?_
    obtain ⟨⟨r17, ftape_17⟩, hc17, hf⟩ := bd_e hf
    try dsimp only at hf
    refine cl_z_up (Wd := (wX6 G ad ado f ++ (wX4 G (ado 5) ftape))) (Wc := (wX4 G (ado 5) ftape)) (W' := (wX4 G (ado 5) ftape_17)) (W2 := (wX6 G ad ado f ++ (wX4 G (ado 5) ftape_17))) (Wr := (wX6 G ad ado f)) [4, 5] [0, 1, 2, 3] rfl rfl rfl rfl rfl rfl (va_runVN (As := [.int x1]) (rest := []) hC (c_X4_append l G (ado 5) ftape x1 r17 ftape_17 hc17 _) ⟨va_cnB 1 hts gX6_feed_X4_append_n73 rfl rfl rfl (hE.2.2 (RX6, 73, yX4_append, "FeatherShares") (List.mem_of_getElem? (i := 6) rfl)) (hts (.initialized RX4) (by decide +kernel)) (by decide +kernel) ⟨Nat.le_of_ble_eq_true rfl, Nat.le_of_ble_eq_true rfl⟩, hts (.instanceMethod yX4_append) (by decide +kernel), hts (.selects RX4 yX4_append yX4_append) (by decide +kernel)⟩ ⟨Pc0_blind, va_recv hT hP (q0 := 4) (ci := 4) rfl rfl, fun U hU hW => Pc0_at (Wd := (wX4 G (ado 5) ftape)) hE (hP.subm [4, 5] rfl) (hD.sub [4, 5] (by decide) rfl) hU hW⟩ rfl rfl hl.1 rfl (lv_room (Nat.le_of_ble_eq_true rfl)) dX6_feed_17 ⟨Nat.zero_le _, Nat.zero_le _⟩) hS hA hP hD (fun H locs hn17 hP hD hS => ?_)
    refine lv_if_eq (tgt := 33) hx hb dX6_feed_20 (by decide) (fun hc => ?_) (fun hc => ?_)
    · have hf := if_t hf hc
      refine lv_bipush (v := (-3 : Int32)) hx hb dX6_feed_33 (bi_m3) ?_
      have hK9 := K0_of hf hK
      exact hRet (-3 : Int32) ftape_17 _ _ _ _ hK9 dX6_feed_35 hP hD hS
    · have hf := if_f hf hc
      refine lv_aload_n hx hb dX6_feed_23 rfl (lv_at hl 0 rfl) ?_
      refine va_get (C := RX6) (T := TX6) (N := 11) (ci := 6) (v := .ref ((ado 5) 0)) hx hb hts inX6 hown hT hP 0 rfl rfl 4 (Nat.le_of_ble_eq_true rfl) lk30 (fun _ h => h) rfl dX6_feed_24 ?_
      refine va_getN (C := RX4) (T := TX4) (N := 6) (ci := 4) (v := .int (ftape_17 0 0)) hx hb hts inX4 hown hT hP 4 rfl rfl 1 (Nat.le_of_ble_eq_true rfl) lk77 (fun _ h => h) rfl dX6_feed_27 ?_
      refine lv_goto (tgt := 35) hx hb dX6_feed_30 (by decide) ?_
      have hK9 := K0_of hf hK
      exact hRet (ftape_17 0 0) ftape_17 _ _ _ _ hK9 dX6_feed_35 hP hD hS
  · have hf := if_t hf hc
    refine lv_iconst (v := (-1 : Int32)) hx hb dX6_feed_10 (ic_m1) ?_
    have hK9 := K0_of hf hK
    exact hRet (-1 : Int32) ftape _ _ _ _ hK9 dX6_feed_11 hP hD hS
noncomputable def p_X6_end (f : Mem) (ftape : Mem) (x1 : Int32) : Option (Int32 × Mem) :=
  Option.bind (p_X6_isWithin x1 (nI 0) (ftape 0 0)) <| fun r9 =>
  if r9 = 0 then
    (some ((-1 : Int32), ftape))
  else
    (some ((ftape 0 0), (mset 0 0 x1 ftape)))
set_option maxHeartbeats 4000000 in
set_option maxRecDepth 100000 in
theorem c_X6_end (l : Launch) (G : Gt) (ad : Nat → Nat) (ado : Nat → Nat → Nat) (f : Mem) (ftape : Mem) (x1 : Int32) (r : Int32) (ftapez : Mem) (hf : p_X6_end f ftape x1 = some (r, ftapez)) (sz : Nat) : Met l yX6_end wsX6_end ({ frames := 2, cells := 0, slots := 0, locals := 34 }) (Pc0 G sz [.ref (ad 0), .int x1] (wX6 G ad ado f ++ (wX4 G (ado 5) ftape))) (Qi0 G (va_A (wX6 G ad ado f ++ (wX4 G (ado 5) ftape)) sz) r (wX6 G ad ado f ++ (wX4 G (ado 5) ftapez))) 0 0 (va_A (wX6 G ad ado f ++ (wX4 G (ado 5) ftape)) sz) := by
  refine metP (Qf := fun A => Qi0 G A r (wX6 G ad ado f ++ (wX4 G (ado 5) ftapez))) cX6_end 3 (some .int) (by decide) rfl (Nat.le_of_ble_eq_true rfl) ?_
  intro p e s m below meth c A ls hC hr hlocks hin hE hA hsz hP hD hS hl
  generalize hargs : ([.ref (ad 0), .int x1] : List Value).toArray = args at hC ⊢
  obtain ⟨hx, hb, hml, hown, hts⟩ := id hC
  have hT : va_K G.1 vwCl (tyL G) s := hE.1
  have hRet : ∀ (r9 : Int32) (ftape9 : Mem) (H : Heap) (locs : List Loc) (ls : Array Slot) (pc : Nat) (hK9 : (r9, ftape9) = (r, ftapez)) (hdg : decode cX6_end pc = .ok (.ireturn, 1)), va_P G.1 vwCl (wX6 G ad ado f ++ (wX4 G (ado 5) ftape9)) H → va_D A (wX6 G ad ado f ++ (wX4 G (ado 5) ftape9)) → va_S A s.heap H locs → W p l e ({ frames := 2, cells := 0, slots := 0, locals := 34 }) s m args below meth c H locs 0 0 (MQ below (Qi0 G A r (wX6 G ad ado f ++ (wX4 G (ado 5) ftapez))) args s 0 0 A) (F0 m pc ls [.int r9]) := by
    intro r9 ftape9 H locs ls pc hK9 hdg hP hD hS
    cases hK9
    exact W.iret hx hb hr (fun t ht hW => ⟨⟨r, (), rfl, rfl, by rw [ht]; exact hP, hD⟩, hS.F ht⟩) hS.2.2 hdg hlocks
  generalize MQ below (Qi0 G A r (wX6 G ad ado f ++ (wX4 G (ado 5) ftapez))) args s 0 0 A = Q at hRet ⊢
  have lk30 := hts (.fieldLink RX6 30 "FeatherShares" "tape" "LFeatherShares$Tape;") (by decide +kernel)
  have inX6 : ∀ w ∈ u_ws RX6 TX6 11, w ∈ wsX6_end := by decide +kernel
  have lk77 := va_Nw.use (A := args) rfl (hE.2.1 (RX6, 77, "FeatherShares$Tape", "length", "I", "FeatherShares") (List.mem_of_getElem? (i := 0) rfl))
  have inX4 : ∀ w ∈ u_ws RX4 TX4 6, w ∈ wsX6_end := by decide +kernel
  have hl : lv_has ls 3 [(0, .ref (ad 0)), (1, .int x1)] := hl
  have hK0 : (r, ftapez) = (r, ftapez) := rfl
  obtain ⟨res, hres, hK⟩ : ∃ res, p_X6_end f ftape x1 = some res ∧ res = (r, ftapez) := ⟨_, hf, rfl⟩
  clear hf
  have hf := hres
  clear hres
  unfold p_X6_end at hf
  refine lv_iload_n hx hb dX6_end_0 rfl (lv_at hl 1 rfl) ?_
  refine lv_iconst (v := (nI 0)) hx hb dX6_end_1 (ic_0) ?_
  refine lv_aload_n hx hb dX6_end_2 rfl (lv_at hl 0 rfl) ?_
  refine va_get (C := RX6) (T := TX6) (N := 11) (ci := 6) (v := .ref ((ado 5) 0)) hx hb hts inX6 hown hT hP 0 rfl rfl 4 (Nat.le_of_ble_eq_true rfl) lk30 (fun _ h => h) rfl dX6_end_3 ?_
  refine va_getN (C := RX4) (T := TX4) (N := 6) (ci := 4) (v := .int (ftape 0 0)) hx hb hts inX4 hown hT hP 4 rfl rfl 1 (Nat.le_of_ble_eq_true rfl) lk77 (fun _ h => h) rfl dX6_end_6 ?_
  obtain ⟨r9, hc9, hf⟩ := bd_e hf
  refine cl_z_ro (Wd := (wX6 G ad ado f ++ (wX4 G (ado 5) ftape))) (Wc := ([] : va_W)) [] rfl (va_runS (As := [.int x1, .int (nI 0), .int (ftape 0 0)]) (rest := []) hC (c_X6_isWithin l G x1 (nI 0) (ftape 0 0) r9 hc9 _) (va_cwS 3 hts gX6_end_X6_isWithin rfl rfl rfl (by decide +kernel) ⟨Nat.le_of_ble_eq_true rfl, Nat.le_of_ble_eq_true rfl⟩) ⟨Pc0_blind, fun U hU hW => Pc0_at (Wd := ([] : va_W)) hE (hP.subm [] rfl) (hD.sub [] (by decide) rfl) hU hW⟩ rfl rfl hl.1 rfl (lv_room (Nat.le_of_ble_eq_true rfl)) dX6_end_9 ⟨Nat.zero_le _, Nat.zero_le _⟩) hS hA hP hD (fun H locs hn9 hP hD hS => ?_)
  refine lv_if_ne (tgt := 17) hx hb dX6_end_12 (by decide) (fun hc => ?_) (fun hc => ?_)
  · have hf := if_f hf hc
    refine lv_aload_n hx hb dX6_end_17 rfl (lv_at hl 0 rfl) ?_
    refine va_get (C := RX6) (T := TX6) (N := 11) (ci := 6) (v := .ref ((ado 5) 0)) hx hb hts inX6 hown hT hP 0 rfl rfl 4 (Nat.le_of_ble_eq_true rfl) lk30 (fun _ h => h) rfl dX6_end_18 ?_
    refine va_getN (C := RX4) (T := TX4) (N := 6) (ci := 4) (v := .int (ftape 0 0)) hx hb hts inX4 hown hT hP 4 rfl rfl 1 (Nat.le_of_ble_eq_true rfl) lk77 (fun _ h => h) rfl dX6_end_21 ?_
    refine lv_istore_n (lv' := [(2, .int (ftape 0 0)), (0, .ref (ad 0)), (1, .int x1)]) hx hb dX6_end_24 rfl hl (by decide) rfl (fun ls hl => ?_)
    refine lv_aload_n hx hb dX6_end_25 rfl (lv_at hl 1 rfl) ?_
    refine va_get (C := RX6) (T := TX6) (N := 11) (ci := 6) (v := .ref ((ado 5) 0)) hx hb hts inX6 hown hT hP 0 rfl rfl 4 (Nat.le_of_ble_eq_true rfl) lk30 (fun _ h => h) rfl dX6_end_26 ?_
    refine lv_iload_n hx hb dX6_end_29 rfl (lv_at hl 2 rfl) ?_
    refine va_putN (C := RX4) (T := TX4) (N := 6) (ci := 4) (ty := .int) (v := .int x1) hx hb hts inX4 tyX4 tyX4_ok nmX4 hown hT hP hD hS 4 rfl rfl 1 (Nat.le_of_ble_eq_true rfl) lk77 (fun _ h => h) rfl (by decide +kernel) rfl rfl (Nat.le_of_ble_eq_true rfl) dX6_end_30 (fun H locs hP hD hS => ?_)
    have hP : va_P G.1 vwCl (wX6 G ad ado f ++ (wX4 G (ado 5) (mset 0 0 x1 ftape))) H := hP
    have hD : va_D A (wX6 G ad ado f ++ (wX4 G (ado 5) (mset 0 0 x1 ftape))) := hD
    refine lv_iload_n hx hb dX6_end_33 rfl (lv_at hl 0 rfl) ?_
    have hK9 := K0_of hf hK
    exact hRet (ftape 0 0) (mset 0 0 x1 ftape) _ _ _ _ hK9 dX6_end_34 hP hD hS
  · have hf := if_t hf hc
    refine lv_iconst (v := (-1 : Int32)) hx hb dX6_end_15 (ic_m1) ?_
    have hK9 := K0_of hf hK
    exact hRet (-1 : Int32) ftape _ _ _ _ hK9 dX6_end_16 hP hD hS
noncomputable def p_X6_fault (f : Mem) (freader : Mem) : Option (Int32) :=
  some (freader 0 1)
set_option maxHeartbeats 4000000 in
set_option maxRecDepth 100000 in
theorem c_X6_fault (l : Launch) (G : Gt) (ad : Nat → Nat) (ado : Nat → Nat → Nat) (f : Mem) (freader : Mem) (r : Int32) (hf : p_X6_fault f freader = some r) (sz : Nat) : Met l yX6_fault wsX6_fault ({ frames := 1, cells := 0, slots := 0, locals := 12 }) (Pc0 G sz [.ref (ad 0)] (wX6 G ad ado f ++ (wX5 G (ado 6) ((ado 7) 0) freader))) (Qi0 G (va_A (wX6 G ad ado f ++ (wX5 G (ado 6) ((ado 7) 0) freader)) sz) r (wX6 G ad ado f ++ (wX5 G (ado 6) ((ado 7) 0) freader))) 0 0 (va_A (wX6 G ad ado f ++ (wX5 G (ado 6) ((ado 7) 0) freader)) sz) := by
  refine metP (Qf := fun A => Qi0 G A r (wX6 G ad ado f ++ (wX5 G (ado 6) ((ado 7) 0) freader))) cX6_fault 1 (some .int) (by decide) rfl (Nat.le_of_ble_eq_true rfl) ?_
  intro p e s m below meth c A ls hC hr hlocks hin hE hA hsz hP hD hS hl
  generalize hargs : ([.ref (ad 0)] : List Value).toArray = args at hC ⊢
  obtain ⟨hx, hb, hml, hown, hts⟩ := id hC
  have hT : va_K G.1 vwCl (tyL G) s := hE.1
  have hRet : ∀ (r9 : Int32) (H : Heap) (locs : List Loc) (ls : Array Slot) (pc : Nat) (hK9 : r9 = r) (hdg : decode cX6_fault pc = .ok (.ireturn, 1)), va_P G.1 vwCl (wX6 G ad ado f ++ (wX5 G (ado 6) ((ado 7) 0) freader)) H → va_D A (wX6 G ad ado f ++ (wX5 G (ado 6) ((ado 7) 0) freader)) → va_S A s.heap H locs → W p l e ({ frames := 1, cells := 0, slots := 0, locals := 12 }) s m args below meth c H locs 0 0 (MQ below (Qi0 G A r (wX6 G ad ado f ++ (wX5 G (ado 6) ((ado 7) 0) freader))) args s 0 0 A) (F0 m pc ls [.int r9]) := by
    intro r9 H locs ls pc hK9 hdg hP hD hS
    cases hK9
    exact W.iret hx hb hr (fun t ht hW => ⟨⟨r, (), rfl, rfl, by rw [ht]; exact hP, hD⟩, hS.F ht⟩) hS.2.2 hdg hlocks
  generalize MQ below (Qi0 G A r (wX6 G ad ado f ++ (wX5 G (ado 6) ((ado 7) 0) freader))) args s 0 0 A = Q at hRet ⊢
  have lk37 := hts (.fieldLink RX6 37 "FeatherShares" "reader" "LFeatherShares$TextReader;") (by decide +kernel)
  have inX6 : ∀ w ∈ u_ws RX6 TX6 11, w ∈ wsX6_fault := by decide +kernel
  have lk84 := va_Nw.use (A := args) rfl (hE.2.1 (RX6, 84, "FeatherShares$TextReader", "faultFound", "I", "FeatherShares") (List.mem_of_getElem? (i := 1) rfl))
  have inX5 : ∀ w ∈ u_ws RX5 TX5 7, w ∈ wsX6_fault := by decide +kernel
  have hl : lv_has ls 1 [(0, .ref (ad 0))] := hl
  have hK0 : r = r := rfl
  obtain ⟨res, hres, hK⟩ : ∃ res, p_X6_fault f freader = some res ∧ res = r := ⟨_, hf, rfl⟩
  clear hf
  have hf := hres
  clear hres
  unfold p_X6_fault at hf
  refine lv_aload_n hx hb dX6_fault_0 rfl (lv_at hl 0 rfl) ?_
  refine va_get (C := RX6) (T := TX6) (N := 11) (ci := 6) (v := .ref ((ado 6) 0)) hx hb hts inX6 hown hT hP 0 rfl rfl 5 (Nat.le_of_ble_eq_true rfl) lk37 (fun _ h => h) rfl dX6_fault_1 ?_
  refine va_getN (C := RX5) (T := TX5) (N := 7) (ci := 5) (v := .int (freader 0 1)) hx hb hts inX5 hown hT hP 4 rfl rfl 2 (Nat.le_of_ble_eq_true rfl) lk84 (fun _ h => h) rfl dX6_fault_4 ?_
  have hK9 := K0_of hf hK
  exact hRet (freader 0 1) _ _ _ _ hK9 dX6_fault_7 hP hD hS
noncomputable def p_X6_sumOf_L10 (n0 : Nat) (g0 : Nat → Int32) (x3 : Int32) (z : Int32 × Int32) : Option ((Int32 × Int32) ⊕ Int32) :=
  match z with
  | (x1, x4) =>
    if x3 ≤ x4 then
      (some (Sum.inr x1))
    else
      (gd (inb x4 n0) <|
       some (Sum.inl ((x1 + (g0 x4.toNatClampNeg)), (x4 + nI 1))))
noncomputable def p_X6_sumOf (n0 : Nat) (g0 : Nat → Int32) : Option (Int32) :=
  Option.bind (lp (p_X6_sumOf_L10 n0 g0 (nI n0)) ((nI 0), (nI 0))) <| fun y1_10 =>
  some y1_10
set_option maxHeartbeats 4000000 in
set_option maxRecDepth 100000 in
theorem c_X6_sumOf (l : Launch) (G : Gt) (aq0 : Nat) (n0 : Nat) (g0 : Nat → Int32) (r : Int32) (hf : p_X6_sumOf n0 g0 = some r) (sz : Nat) : Met l yX6_sumOf wsX6_sumOf ({ frames := 1, cells := 0, slots := 0, locals := 12 }) (Pc0 G sz [.ref aq0] (wRow G aq0 n0 g0)) (Qi0 G (va_A (wRow G aq0 n0 g0) sz) r (wRow G aq0 n0 g0)) 0 0 (va_A (wRow G aq0 n0 g0) sz) := by
  refine metP (Qf := fun A => Qi0 G A r (wRow G aq0 n0 g0)) cX6_sumOf 6 (some .int) (by decide) rfl (Nat.le_of_ble_eq_true rfl) ?_
  intro p e s m below meth c A ls hC hr hlocks hin hE hA hsz hP hD hS hl
  generalize hargs : ([.ref aq0] : List Value).toArray = args at hC ⊢
  obtain ⟨hx, hb, hml, hown, hts⟩ := id hC
  have hT : va_K G.1 vwCl (tyL G) s := hE.1
  have hRet : ∀ (r9 : Int32) (H : Heap) (locs : List Loc) (ls : Array Slot) (pc : Nat) (hK9 : r9 = r) (hdg : decode cX6_sumOf pc = .ok (.ireturn, 1)), va_P G.1 vwCl (wRow G aq0 n0 g0) H → va_D A (wRow G aq0 n0 g0) → va_S A s.heap H locs → W p l e ({ frames := 1, cells := 0, slots := 0, locals := 12 }) s m args below meth c H locs 0 0 (MQ below (Qi0 G A r (wRow G aq0 n0 g0)) args s 0 0 A) (F0 m pc ls [.int r9]) := by
    intro r9 H locs ls pc hK9 hdg hP hD hS
    cases hK9
    exact W.iret hx hb hr (fun t ht hW => ⟨⟨r, (), rfl, rfl, by rw [ht]; exact hP, hD⟩, hS.F ht⟩) hS.2.2 hdg hlocks
  generalize MQ below (Qi0 G A r (wRow G aq0 n0 g0)) args s 0 0 A = Q at hRet ⊢
  have hl : lv_has ls 6 [(0, .ref aq0)] := hl
  have hK0 : r = r := rfl
  obtain ⟨res, hres, hK⟩ : ∃ res, p_X6_sumOf n0 g0 = some res ∧ res = r := ⟨_, hf, rfl⟩
  clear hf
  have hf := hres
  clear hres
  unfold p_X6_sumOf at hf
  refine lv_iconst (v := (nI 0)) hx hb dX6_sumOf_0 (ic_0) ?_
  refine lv_istore_n (lv' := [(1, .int (nI 0)), (0, .ref aq0)]) hx hb dX6_sumOf_1 rfl hl (by decide) rfl (fun ls hl => ?_)
  refine lv_aload_n hx hb dX6_sumOf_2 rfl (lv_at hl 1 rfl) ?_
  refine lv_astore_n (lv' := [(2, .ref aq0), (1, .int (nI 0)), (0, .ref aq0)]) hx hb dX6_sumOf_3 rfl hl (by decide) rfl (fun ls hl => ?_)
  refine lv_aload_n hx hb dX6_sumOf_4 rfl (lv_at hl 0 rfl) ?_
  refine va_alen (v := (nI n0)) hx hb hT hP 0 0 rfl rfl rfl dX6_sumOf_5 ?_
  refine lv_istore_n (lv' := [(3, .int (nI n0)), (2, .ref aq0), (1, .int (nI 0)), (0, .ref aq0)]) hx hb dX6_sumOf_6 rfl hl (by decide) rfl (fun ls hl => ?_)
  refine lv_iconst (v := (nI 0)) hx hb dX6_sumOf_7 (ic_0) ?_
  refine lv_istore (lv' := [(4, .int (nI 0)), (3, .int (nI n0)), (2, .ref aq0), (1, .int (nI 0)), (0, .ref aq0)]) hx hb dX6_sumOf_8 hl (by decide) rfl (fun ls hl => ?_)
  obtain ⟨y1_10, hlp, hf⟩ := bd_e hf
  refine lp_W1 (p_X6_sumOf_L10 n0 g0 (nI n0)) (fun z => match z with | (x1, x4) => ∀ (H : Heap) (locs : List Loc) (ls : Array Slot), va_P G.1 vwCl (wRow G aq0 n0 g0) H → va_D A (wRow G aq0 n0 g0) → va_S A s.heap H locs → lv_has ls 6 [(1, .int x1), (2, .ref aq0), (3, .int (nI n0)), (4, .int x4)] → W p l e ({ frames := 1, cells := 0, slots := 0, locals := 12 }) s m args below meth c H locs 0 0 Q (F0 m 10 ls [])) (fun (y1_10 : Int32) => ∀ (H : Heap) (locs : List Loc) (ls : Array Slot), va_P G.1 vwCl (wRow G aq0 n0 g0) H → va_D A (wRow G aq0 n0 g0) → va_S A s.heap H locs → lv_has ls 6 [(1, .int y1_10)] → W p l e ({ frames := 1, cells := 0, slots := 0, locals := 12 }) s m args below meth c H locs 0 0 Q (F0 m 33 ls [])) ?_ hlp ?_ _ _ _ hP hD hS (lv_sub hl [3, 2, 1, 0] rfl)
  · clear hlp hf hK hP hD hS hl
    generalize (nI n0) = x3
    intro K10 hW10 hX10 
    rintro ⟨x1, x4⟩ res hf hK H locs ls hP hD hS hl
    unfold p_X6_sumOf_L10 at hf
    dsimp only at hf
    refine lv_iload hx hb dX6_sumOf_10 (lv_at hl 3 rfl) ?_
    refine lv_iload_n hx hb dX6_sumOf_12 rfl (lv_at hl 2 rfl) ?_
    refine lv_icmp_ge (tgt := 33) hx hb dX6_sumOf_13 (by decide) (fun hc => ?_) (fun hc => ?_)
    · have hf := if_t hf hc
      have hK9 := K_of hf hK
      have hK9 := hX10 _ hK9
      exact hK9 _ _ _ hP hD hS (lv_sub hl [0] rfl)
    · have hf := if_f hf hc
      refine lv_aload_n hx hb dX6_sumOf_16 rfl (lv_at hl 1 rfl) ?_
      refine lv_iload hx hb dX6_sumOf_17 (lv_at hl 3 rfl) ?_
      obtain ⟨hg, hf⟩ := gd_e hf
      refine va_iald (f := g0) hx hb hT hP 0 0 rfl rfl (inb_e hg) dX6_sumOf_19 ?_
      refine lv_istore (lv' := [(5, .int (g0 x4.toNatClampNeg)), (1, .int x1), (2, .ref aq0), (3, .int x3), (4, .int x4)]) hx hb dX6_sumOf_20 hl (by decide) rfl (fun ls hl => ?_)
      refine lv_iload_n hx hb dX6_sumOf_22 rfl (lv_at hl 1 rfl) ?_
      refine lv_iload hx hb dX6_sumOf_23 (lv_at hl 0 rfl) ?_
      refine lv_iadd hx hb dX6_sumOf_25 ?_
      refine lv_istore_n (lv' := [(1, .int (x1 + (g0 x4.toNatClampNeg))), (5, .int (g0 x4.toNatClampNeg)), (2, .ref aq0), (3, .int x3), (4, .int x4)]) hx hb dX6_sumOf_26 rfl hl (by decide) rfl (fun ls hl => ?_)
      refine lv_iinc (v := (x4 + nI 1)) (lv' := [(4, .int (x4 + nI 1)), (1, .int (x1 + (g0 x4.toNatClampNeg))), (5, .int (g0 x4.toNatClampNeg)), (2, .ref aq0), (3, .int x3)]) hx hb dX6_sumOf_27 hl (k := 4) rfl (ii_x 1 _) (by decide) rfl (fun ls hl => ?_)
      refine lv_goto (tgt := 10) hx hb dX6_sumOf_30 (by decide) ?_
      have hK9 := K_of hf hK
      have hK9 := hW10 _ hK9
      exact hK9 _ _ _ hP hD hS (lv_sub hl [1, 3, 4, 0] rfl)
  · try dsimp only at hf
    show ∀ (H : Heap) (locs : List Loc) (ls : Array Slot), va_P G.1 vwCl (wRow G aq0 n0 g0) H → va_D A (wRow G aq0 n0 g0) → va_S A s.heap H locs → lv_has ls 6 [(1, .int y1_10)] → W p l e ({ frames := 1, cells := 0, slots := 0, locals := 12 }) s m args below meth c H locs 0 0 Q (F0 m 33 ls [])
    intro H locs ls hP hD hS hl
    refine lv_iload_n hx hb dX6_sumOf_33 rfl (lv_at hl 0 rfl) ?_
    have hK9 := K0_of hf hK
    exact hRet y1_10 _ _ _ _ hK9 dX6_sumOf_34 hP hD hS
noncomputable def p_X6_rule (f : Mem) (fnow : Mem) (x1 : Int32) : Option (Int32) :=
  if x1 = (nI 0) then
    (some (fnow 0 0))
  else if x1 = (nI 1) then
    (some (fnow 0 1))
  else if x1 = (nI 2) then
    (some (fnow 0 2))
  else if x1 = (nI 3) then
    (Option.bind (p_X6_sumOf 5 (fnow 5)) <| fun r71 =>
     some r71)
  else if x1 = (nI 4) then
    (Option.bind (p_X6_sumOf 5 (fnow 6)) <| fun r82 =>
     some r82)
  else if x1 = (nI 5) then
    (Option.bind (p_X0_bareGeese fnow) <| fun r90 =>
     some r90)
  else
    (some (-1 : Int32))
set_option maxHeartbeats 4000000 in
set_option maxRecDepth 100000 in
theorem c_X6_rule (l : Launch) (G : Gt) (ad : Nat → Nat) (ado : Nat → Nat → Nat) (f : Mem) (fnow : Mem) (x1 : Int32) (r : Int32) (hf : p_X6_rule f fnow x1 = some r) (sz : Nat) : Met l yX6_rule wsX6_rule ({ frames := 4, cells := 0, slots := 0, locals := 79 }) (Pc0 G sz [.ref (ad 0), .int x1] (wX6 G ad ado f ++ (wX0 G (ado 1) fnow))) (Qi0 G (va_A (wX6 G ad ado f ++ (wX0 G (ado 1) fnow)) sz) r (wX6 G ad ado f ++ (wX0 G (ado 1) fnow))) 0 0 (va_A (wX6 G ad ado f ++ (wX0 G (ado 1) fnow)) sz) := by
  refine metP (Qf := fun A => Qi0 G A r (wX6 G ad ado f ++ (wX0 G (ado 1) fnow))) cX6_rule 2 (some .int) (by decide) rfl (Nat.le_of_ble_eq_true rfl) ?_
  intro p e s m below meth c A ls hC hr hlocks hin hE hA hsz hP hD hS hl
  generalize hargs : ([.ref (ad 0), .int x1] : List Value).toArray = args at hC ⊢
  obtain ⟨hx, hb, hml, hown, hts⟩ := id hC
  have hT : va_K G.1 vwCl (tyL G) s := hE.1
  have hRet : ∀ (r9 : Int32) (H : Heap) (locs : List Loc) (ls : Array Slot) (pc : Nat) (hK9 : r9 = r) (hdg : decode cX6_rule pc = .ok (.ireturn, 1)), va_P G.1 vwCl (wX6 G ad ado f ++ (wX0 G (ado 1) fnow)) H → va_D A (wX6 G ad ado f ++ (wX0 G (ado 1) fnow)) → va_S A s.heap H locs → W p l e ({ frames := 4, cells := 0, slots := 0, locals := 79 }) s m args below meth c H locs 0 0 (MQ below (Qi0 G A r (wX6 G ad ado f ++ (wX0 G (ado 1) fnow))) args s 0 0 A) (F0 m pc ls [.int r9]) := by
    intro r9 H locs ls pc hK9 hdg hP hD hS
    cases hK9
    exact W.iret hx hb hr (fun t ht hW => ⟨⟨r, (), rfl, rfl, by rw [ht]; exact hP, hD⟩, hS.F ht⟩) hS.2.2 hdg hlocks
  generalize MQ below (Qi0 G A r (wX6 G ad ado f ++ (wX0 G (ado 1) fnow))) args s 0 0 A = Q at hRet ⊢
  have lk12 := hts (.fieldLink RX6 12 "FeatherShares" "now" "LFeatherShares$Flock;") (by decide +kernel)
  have inX6 : ∀ w ∈ u_ws RX6 TX6 11, w ∈ wsX6_rule := by decide +kernel
  have lk103 := va_Nw.use (A := args) rfl (hE.2.1 (RX6, 103, "FeatherShares$Flock", "geese", "I", "FeatherShares") (List.mem_of_getElem? (i := 6) rfl))
  have inX0 : ∀ w ∈ u_ws RX0 TX0 13, w ∈ wsX6_rule := by decide +kernel
  have lk106 := va_Nw.use (A := args) rfl (hE.2.1 (RX6, 106, "FeatherShares$Flock", "week", "I", "FeatherShares") (List.mem_of_getElem? (i := 7) rfl))
  have lk109 := va_Nw.use (A := args) rfl (hE.2.1 (RX6, 109, "FeatherShares$Flock", "trades", "I", "FeatherShares") (List.mem_of_getElem? (i := 8) rfl))
  have lk112 := va_Nw.use (A := args) rfl (hE.2.1 (RX6, 112, "FeatherShares$Flock", "money", "[I", "FeatherShares") (List.mem_of_getElem? (i := 9) rfl))
  have lk119 := va_Nw.use (A := args) rfl (hE.2.1 (RX6, 119, "FeatherShares$Flock", "eggsHad", "[I", "FeatherShares") (List.mem_of_getElem? (i := 10) rfl))
  have hl : lv_has ls 2 [(0, .ref (ad 0)), (1, .int x1)] := hl
  have hK0 : r = r := rfl
  obtain ⟨res, hres, hK⟩ : ∃ res, p_X6_rule f fnow x1 = some res ∧ res = r := ⟨_, hf, rfl⟩
  clear hf
  have hf := hres
  clear hres
  unfold p_X6_rule at hf
  refine lv_iload_n hx hb dX6_rule_0 rfl (lv_at hl 1 rfl) ?_
  by_cases hs0 : x1 = (nI 0)
  · have hf := if_t hf hs0
    refine lv_tableIn (tgt := 40) hx hb dX6_rule_1 (by rw [hs0]; decide) (by rw [hs0]; decide) (by rw [hs0]; rfl) (by decide) ?_
    refine lv_aload_n hx hb dX6_rule_40 rfl (lv_at hl 0 rfl) ?_
    refine va_get (C := RX6) (T := TX6) (N := 11) (ci := 6) (v := .ref ((ado 1) 0)) hx hb hts inX6 hown hT hP 0 rfl rfl 0 (Nat.le_of_ble_eq_true rfl) lk12 (fun _ h => h) rfl dX6_rule_41 ?_
    refine va_getN (C := RX0) (T := TX0) (N := 13) (ci := 0) (v := .int (fnow 0 0)) hx hb hts inX0 hown hT hP 4 rfl rfl 0 (Nat.le_of_ble_eq_true rfl) lk103 (fun _ h => h) rfl dX6_rule_44 ?_
    have hK9 := K0_of hf hK
    exact hRet (fnow 0 0) _ _ _ _ hK9 dX6_rule_47 hP hD hS
  have hf := if_f hf hs0
  by_cases hs1 : x1 = (nI 1)
  · have hf := if_t hf hs1
    refine lv_tableIn (tgt := 48) hx hb dX6_rule_1 (by rw [hs1]; decide) (by rw [hs1]; decide) (by rw [hs1]; rfl) (by decide) ?_
    refine lv_aload_n hx hb dX6_rule_48 rfl (lv_at hl 0 rfl) ?_
    refine va_get (C := RX6) (T := TX6) (N := 11) (ci := 6) (v := .ref ((ado 1) 0)) hx hb hts inX6 hown hT hP 0 rfl rfl 0 (Nat.le_of_ble_eq_true rfl) lk12 (fun _ h => h) rfl dX6_rule_49 ?_
    refine va_getN (C := RX0) (T := TX0) (N := 13) (ci := 0) (v := .int (fnow 0 1)) hx hb hts inX0 hown hT hP 4 rfl rfl 1 (Nat.le_of_ble_eq_true rfl) lk106 (fun _ h => h) rfl dX6_rule_52 ?_
    have hK9 := K0_of hf hK
    exact hRet (fnow 0 1) _ _ _ _ hK9 dX6_rule_55 hP hD hS
  have hf := if_f hf hs1
  by_cases hs2 : x1 = (nI 2)
  · have hf := if_t hf hs2
    refine lv_tableIn (tgt := 56) hx hb dX6_rule_1 (by rw [hs2]; decide) (by rw [hs2]; decide) (by rw [hs2]; rfl) (by decide) ?_
    refine lv_aload_n hx hb dX6_rule_56 rfl (lv_at hl 0 rfl) ?_
    refine va_get (C := RX6) (T := TX6) (N := 11) (ci := 6) (v := .ref ((ado 1) 0)) hx hb hts inX6 hown hT hP 0 rfl rfl 0 (Nat.le_of_ble_eq_true rfl) lk12 (fun _ h => h) rfl dX6_rule_57 ?_
    refine va_getN (C := RX0) (T := TX0) (N := 13) (ci := 0) (v := .int (fnow 0 2)) hx hb hts inX0 hown hT hP 4 rfl rfl 2 (Nat.le_of_ble_eq_true rfl) lk109 (fun _ h => h) rfl dX6_rule_60 ?_
    have hK9 := K0_of hf hK
    exact hRet (fnow 0 2) _ _ _ _ hK9 dX6_rule_63 hP hD hS
  have hf := if_f hf hs2
  by_cases hs3 : x1 = (nI 3)
  · have hf := if_t hf hs3
    refine lv_tableIn (tgt := 64) hx hb dX6_rule_1 (by rw [hs3]; decide) (by rw [hs3]; decide) (by rw [hs3]; rfl) (by decide) ?_
    refine lv_aload_n hx hb dX6_rule_64 rfl (lv_at hl 0 rfl) ?_
    refine va_get (C := RX6) (T := TX6) (N := 11) (ci := 6) (v := .ref ((ado 1) 0)) hx hb hts inX6 hown hT hP 0 rfl rfl 0 (Nat.le_of_ble_eq_true rfl) lk12 (fun _ h => h) rfl dX6_rule_65 ?_
    refine va_getN (C := RX0) (T := TX0) (N := 13) (ci := 0) (v := .ref ((ado 1) 5)) hx hb hts inX0 hown hT hP 4 rfl rfl 7 (Nat.le_of_ble_eq_true rfl) lk112 (fun _ h => h) rfl dX6_rule_68 ?_
    obtain ⟨r71, hc71, hf⟩ := bd_e hf
    refine cl_i_ro (Wd := (wX6 G ad ado f ++ (wX0 G (ado 1) fnow))) (Wc := (wRow G ((ado 1) 5) 5 (fnow 5))) [9] rfl (va_runS (As := [.ref ((ado 1) 5)]) (rest := []) hC (c_X6_sumOf l G ((ado 1) 5) 5 (fnow 5) r71 hc71 _) (va_cwS 1 hts gX6_rule_X6_sumOf rfl rfl rfl (by decide +kernel) ⟨Nat.le_of_ble_eq_true rfl, Nat.le_of_ble_eq_true rfl⟩) ⟨Pc0_blind, fun U hU hW => Pc0_at (Wd := (wRow G ((ado 1) 5) 5 (fnow 5))) hE (hP.subm [9] rfl) (hD.sub [9] (by decide) rfl) hU hW⟩ rfl rfl hl.1 rfl (lv_room (Nat.le_of_ble_eq_true rfl)) dX6_rule_71 ⟨Nat.zero_le _, Nat.zero_le _⟩) hS hA hP hD (fun H locs hP hD hS => ?_)
    have hK9 := K0_of hf hK
    exact hRet r71 _ _ _ _ hK9 dX6_rule_74 hP hD hS
  have hf := if_f hf hs3
  by_cases hs4 : x1 = (nI 4)
  · have hf := if_t hf hs4
    refine lv_tableIn (tgt := 75) hx hb dX6_rule_1 (by rw [hs4]; decide) (by rw [hs4]; decide) (by rw [hs4]; rfl) (by decide) ?_
    refine lv_aload_n hx hb dX6_rule_75 rfl (lv_at hl 0 rfl) ?_
    refine va_get (C := RX6) (T := TX6) (N := 11) (ci := 6) (v := .ref ((ado 1) 0)) hx hb hts inX6 hown hT hP 0 rfl rfl 0 (Nat.le_of_ble_eq_true rfl) lk12 (fun _ h => h) rfl dX6_rule_76 ?_
    refine va_getN (C := RX0) (T := TX0) (N := 13) (ci := 0) (v := .ref ((ado 1) 6)) hx hb hts inX0 hown hT hP 4 rfl rfl 8 (Nat.le_of_ble_eq_true rfl) lk119 (fun _ h => h) rfl dX6_rule_79 ?_
    obtain ⟨r82, hc82, hf⟩ := bd_e hf
    refine cl_i_ro (Wd := (wX6 G ad ado f ++ (wX0 G (ado 1) fnow))) (Wc := (wRow G ((ado 1) 6) 5 (fnow 6))) [10] rfl (va_runS (As := [.ref ((ado 1) 6)]) (rest := []) hC (c_X6_sumOf l G ((ado 1) 6) 5 (fnow 6) r82 hc82 _) (va_cwS 1 hts gX6_rule_X6_sumOf rfl rfl rfl (by decide +kernel) ⟨Nat.le_of_ble_eq_true rfl, Nat.le_of_ble_eq_true rfl⟩) ⟨Pc0_blind, fun U hU hW => Pc0_at (Wd := (wRow G ((ado 1) 6) 5 (fnow 6))) hE (hP.subm [10] rfl) (hD.sub [10] (by decide) rfl) hU hW⟩ rfl rfl hl.1 rfl (lv_room (Nat.le_of_ble_eq_true rfl)) dX6_rule_82 ⟨Nat.zero_le _, Nat.zero_le _⟩) hS hA hP hD (fun H locs hP hD hS => ?_)
    have hK9 := K0_of hf hK
    exact hRet r82 _ _ _ _ hK9 dX6_rule_85 hP hD hS
  have hf := if_f hf hs4
  by_cases hs5 : x1 = (nI 5)
  · have hf := if_t hf hs5
    refine lv_tableIn (tgt := 86) hx hb dX6_rule_1 (by rw [hs5]; decide) (by rw [hs5]; decide) (by rw [hs5]; rfl) (by decide) ?_
    refine lv_aload_n hx hb dX6_rule_86 rfl (lv_at hl 0 rfl) ?_
    refine va_get (C := RX6) (T := TX6) (N := 11) (ci := 6) (v := .ref ((ado 1) 0)) hx hb hts inX6 hown hT hP 0 rfl rfl 0 (Nat.le_of_ble_eq_true rfl) lk12 (fun _ h => h) rfl dX6_rule_87 ?_
    obtain ⟨r90, hc90, hf⟩ := bd_e hf
    refine cl_i_ro (Wd := (wX6 G ad ado f ++ (wX0 G (ado 1) fnow))) (Wc := (wX0 G (ado 1) fnow)) [4, 5, 6, 7, 8, 9, 10, 11, 12, 13, 14] rfl (va_runVN (As := []) (rest := []) hC (c_X0_bareGeese l G (ado 1) fnow r90 hc90 _) ⟨va_cnB 0 hts gX6_rule_X0_bareGeese_n122 rfl rfl rfl (hE.2.2 (RX6, 122, yX0_bareGeese, "FeatherShares") (List.mem_of_getElem? (i := 9) rfl)) (hts (.initialized RX0) (by decide +kernel)) (by decide +kernel) ⟨Nat.le_of_ble_eq_true rfl, Nat.le_of_ble_eq_true rfl⟩, hts (.instanceMethod yX0_bareGeese) (by decide +kernel), hts (.selects RX0 yX0_bareGeese yX0_bareGeese) (by decide +kernel)⟩ ⟨Pc0_blind, va_recv hT hP (q0 := 4) (ci := 0) rfl rfl, fun U hU hW => Pc0_at (Wd := (wX0 G (ado 1) fnow)) hE (hP.subm [4, 5, 6, 7, 8, 9, 10, 11, 12, 13, 14] rfl) (hD.sub [4, 5, 6, 7, 8, 9, 10, 11, 12, 13, 14] (by decide) rfl) hU hW⟩ rfl rfl hl.1 rfl (lv_room (Nat.le_of_ble_eq_true rfl)) dX6_rule_90 ⟨Nat.zero_le _, Nat.zero_le _⟩) hS hA hP hD (fun H locs hP hD hS => ?_)
    have hK9 := K0_of hf hK
    exact hRet r90 _ _ _ _ hK9 dX6_rule_93 hP hD hS
  have hf := if_f hf hs5
  have hout : x1.toInt < 0 ∨ 5 < x1.toInt := by
    have t0 := ne_int hs0 (by decide)
    have t1 := ne_int hs1 (by decide)
    have t2 := ne_int hs2 (by decide)
    have t3 := ne_int hs3 (by decide)
    have t4 := ne_int hs4 (by decide)
    have t5 := ne_int hs5 (by decide)
    omega
  refine lv_tableOut (tgt := 94) hx hb dX6_rule_1 hout (by decide) ?_
  refine lv_iconst (v := (-1 : Int32)) hx hb dX6_rule_94 (ic_m1) ?_
  have hK9 := K0_of hf hK
  exact hRet (-1 : Int32) _ _ _ _ hK9 dX6_rule_95 hP hD hS
noncomputable def p_X6_goose (f : Mem) (fnow : Mem) (x1 : Int32) (x2 : Int32) : Option (Int32) :=
  Option.bind (p_X0_hasGoose fnow x1) <| fun r5 =>
  if r5 = 0 then
    (some (-1 : Int32))
  else
    (if x2 = (nI 0) then
       (gd (inb x1 3) <|
        some (fnow 1 x1.toNatClampNeg))
     else if x2 = (nI 1) then
       (gd (inb x1 3) <|
        some (fnow 2 x1.toNatClampNeg))
     else if x2 = (nI 2) then
       (gd (inb x1 3) <|
        some (fnow 3 x1.toNatClampNeg))
     else if x2 = (nI 3) then
       (Option.bind (p_X0_feathersOf fnow x1) <| fun r83 =>
        some r83)
     else if x2 = (nI 4) then
       (Option.bind (p_X0_eggOwner fnow x1) <| fun r92 =>
        some r92)
     else
       (some (-1 : Int32)))
set_option maxHeartbeats 4000000 in
set_option maxRecDepth 100000 in
theorem c_X6_goose (l : Launch) (G : Gt) (ad : Nat → Nat) (ado : Nat → Nat → Nat) (f : Mem) (fnow : Mem) (x1 : Int32) (x2 : Int32) (r : Int32) (hf : p_X6_goose f fnow x1 x2 = some r) (sz : Nat) : Met l yX6_goose wsX6_goose ({ frames := 3, cells := 0, slots := 0, locals := 57 }) (Pc0 G sz [.ref (ad 0), .int x1, .int x2] (wX6 G ad ado f ++ (wX0 G (ado 1) fnow))) (Qi0 G (va_A (wX6 G ad ado f ++ (wX0 G (ado 1) fnow)) sz) r (wX6 G ad ado f ++ (wX0 G (ado 1) fnow))) 0 0 (va_A (wX6 G ad ado f ++ (wX0 G (ado 1) fnow)) sz) := by
  refine metP (Qf := fun A => Qi0 G A r (wX6 G ad ado f ++ (wX0 G (ado 1) fnow))) cX6_goose 3 (some .int) (by decide) rfl (Nat.le_of_ble_eq_true rfl) ?_
  intro p e s m below meth c A ls hC hr hlocks hin hE hA hsz hP hD hS hl
  generalize hargs : ([.ref (ad 0), .int x1, .int x2] : List Value).toArray = args at hC ⊢
  obtain ⟨hx, hb, hml, hown, hts⟩ := id hC
  have hT : va_K G.1 vwCl (tyL G) s := hE.1
  have hRet : ∀ (r9 : Int32) (H : Heap) (locs : List Loc) (ls : Array Slot) (pc : Nat) (hK9 : r9 = r) (hdg : decode cX6_goose pc = .ok (.ireturn, 1)), va_P G.1 vwCl (wX6 G ad ado f ++ (wX0 G (ado 1) fnow)) H → va_D A (wX6 G ad ado f ++ (wX0 G (ado 1) fnow)) → va_S A s.heap H locs → W p l e ({ frames := 3, cells := 0, slots := 0, locals := 57 }) s m args below meth c H locs 0 0 (MQ below (Qi0 G A r (wX6 G ad ado f ++ (wX0 G (ado 1) fnow))) args s 0 0 A) (F0 m pc ls [.int r9]) := by
    intro r9 H locs ls pc hK9 hdg hP hD hS
    cases hK9
    exact W.iret hx hb hr (fun t ht hW => ⟨⟨r, (), rfl, rfl, by rw [ht]; exact hP, hD⟩, hS.F ht⟩) hS.2.2 hdg hlocks
  generalize MQ below (Qi0 G A r (wX6 G ad ado f ++ (wX0 G (ado 1) fnow))) args s 0 0 A = Q at hRet ⊢
  have lk12 := hts (.fieldLink RX6 12 "FeatherShares" "now" "LFeatherShares$Flock;") (by decide +kernel)
  have inX6 : ∀ w ∈ u_ws RX6 TX6 11, w ∈ wsX6_goose := by decide +kernel
  have lk129 := va_Nw.use (A := args) rfl (hE.2.1 (RX6, 129, "FeatherShares$Flock", "kind", "[I", "FeatherShares") (List.mem_of_getElem? (i := 11) rfl))
  have inX0 : ∀ w ∈ u_ws RX0 TX0 13, w ∈ wsX6_goose := by decide +kernel
  have lk132 := va_Nw.use (A := args) rfl (hE.2.1 (RX6, 132, "FeatherShares$Flock", "skin", "[I", "FeatherShares") (List.mem_of_getElem? (i := 12) rfl))
  have lk135 := va_Nw.use (A := args) rfl (hE.2.1 (RX6, 135, "FeatherShares$Flock", "price", "[I", "FeatherShares") (List.mem_of_getElem? (i := 13) rfl))
  have hl : lv_has ls 3 [(0, .ref (ad 0)), (1, .int x1), (2, .int x2)] := hl
  have hK0 : r = r := rfl
  obtain ⟨res, hres, hK⟩ : ∃ res, p_X6_goose f fnow x1 x2 = some res ∧ res = r := ⟨_, hf, rfl⟩
  clear hf
  have hf := hres
  clear hres
  unfold p_X6_goose at hf
  refine lv_aload_n hx hb dX6_goose_0 rfl (lv_at hl 0 rfl) ?_
  refine va_get (C := RX6) (T := TX6) (N := 11) (ci := 6) (v := .ref ((ado 1) 0)) hx hb hts inX6 hown hT hP 0 rfl rfl 0 (Nat.le_of_ble_eq_true rfl) lk12 (fun _ h => h) rfl dX6_goose_1 ?_
  refine lv_iload_n hx hb dX6_goose_4 rfl (lv_at hl 1 rfl) ?_
  obtain ⟨r5, hc5, hf⟩ := bd_e hf
  refine cl_z_ro (Wd := (wX6 G ad ado f ++ (wX0 G (ado 1) fnow))) (Wc := (wX0 G (ado 1) fnow)) [4, 5, 6, 7, 8, 9, 10, 11, 12, 13, 14] rfl (va_runVN (As := [.int x1]) (rest := []) hC (c_X0_hasGoose l G (ado 1) fnow x1 r5 hc5 _) ⟨va_cnB 1 hts gX6_goose_X0_hasGoose_n126 rfl rfl rfl (hE.2.2 (RX6, 126, yX0_hasGoose, "FeatherShares") (List.mem_of_getElem? (i := 10) rfl)) (hts (.initialized RX0) (by decide +kernel)) (by decide +kernel) ⟨Nat.le_of_ble_eq_true rfl, Nat.le_of_ble_eq_true rfl⟩, hts (.instanceMethod yX0_hasGoose) (by decide +kernel), hts (.selects RX0 yX0_hasGoose yX0_hasGoose) (by decide +kernel)⟩ ⟨Pc0_blind, va_recv hT hP (q0 := 4) (ci := 0) rfl rfl, fun U hU hW => Pc0_at (Wd := (wX0 G (ado 1) fnow)) hE (hP.subm [4, 5, 6, 7, 8, 9, 10, 11, 12, 13, 14] rfl) (hD.sub [4, 5, 6, 7, 8, 9, 10, 11, 12, 13, 14] (by decide) rfl) hU hW⟩ rfl rfl hl.1 rfl (lv_room (Nat.le_of_ble_eq_true rfl)) dX6_goose_5 ⟨Nat.zero_le _, Nat.zero_le _⟩) hS hA hP hD (fun H locs hn5 hP hD hS => ?_)
  refine lv_if_ne (tgt := 13) hx hb dX6_goose_8 (by decide) (fun hc => ?_) (fun hc => ?_)
  · have hf := if_f hf hc
    refine lv_iload_n hx hb dX6_goose_13 rfl (lv_at hl 2 rfl) ?_
    by_cases hs0 : x2 = (nI 0)
    · have hf := if_t hf hs0
      refine lv_tableIn (tgt := 48) hx hb dX6_goose_14 (by rw [hs0]; decide) (by rw [hs0]; decide) (by rw [hs0]; rfl) (by decide) ?_
      refine lv_aload_n hx hb dX6_goose_48 rfl (lv_at hl 0 rfl) ?_
      refine va_get (C := RX6) (T := TX6) (N := 11) (ci := 6) (v := .ref ((ado 1) 0)) hx hb hts inX6 hown hT hP 0 rfl rfl 0 (Nat.le_of_ble_eq_true rfl) lk12 (fun _ h => h) rfl dX6_goose_49 ?_
      refine va_getN (C := RX0) (T := TX0) (N := 13) (ci := 0) (v := .ref ((ado 1) 1)) hx hb hts inX0 hown hT hP 4 rfl rfl 3 (Nat.le_of_ble_eq_true rfl) lk129 (fun _ h => h) rfl dX6_goose_52 ?_
      refine lv_iload_n hx hb dX6_goose_55 rfl (lv_at hl 1 rfl) ?_
      obtain ⟨hg, hf⟩ := gd_e hf
      refine va_iald (f := fnow 1) hx hb hT hP 5 0 rfl rfl (inb_e hg) dX6_goose_56 ?_
      have hK9 := K0_of hf hK
      exact hRet (fnow 1 x1.toNatClampNeg) _ _ _ _ hK9 dX6_goose_57 hP hD hS
    have hf := if_f hf hs0
    by_cases hs1 : x2 = (nI 1)
    · have hf := if_t hf hs1
      refine lv_tableIn (tgt := 58) hx hb dX6_goose_14 (by rw [hs1]; decide) (by rw [hs1]; decide) (by rw [hs1]; rfl) (by decide) ?_
      refine lv_aload_n hx hb dX6_goose_58 rfl (lv_at hl 0 rfl) ?_
      refine va_get (C := RX6) (T := TX6) (N := 11) (ci := 6) (v := .ref ((ado 1) 0)) hx hb hts inX6 hown hT hP 0 rfl rfl 0 (Nat.le_of_ble_eq_true rfl) lk12 (fun _ h => h) rfl dX6_goose_59 ?_
      refine va_getN (C := RX0) (T := TX0) (N := 13) (ci := 0) (v := .ref ((ado 1) 2)) hx hb hts inX0 hown hT hP 4 rfl rfl 4 (Nat.le_of_ble_eq_true rfl) lk132 (fun _ h => h) rfl dX6_goose_62 ?_
      refine lv_iload_n hx hb dX6_goose_65 rfl (lv_at hl 1 rfl) ?_
      obtain ⟨hg, hf⟩ := gd_e hf
      refine va_iald (f := fnow 2) hx hb hT hP 6 0 rfl rfl (inb_e hg) dX6_goose_66 ?_
      have hK9 := K0_of hf hK
      exact hRet (fnow 2 x1.toNatClampNeg) _ _ _ _ hK9 dX6_goose_67 hP hD hS
    have hf := if_f hf hs1
    by_cases hs2 : x2 = (nI 2)
    · have hf := if_t hf hs2
      refine lv_tableIn (tgt := 68) hx hb dX6_goose_14 (by rw [hs2]; decide) (by rw [hs2]; decide) (by rw [hs2]; rfl) (by decide) ?_
      refine lv_aload_n hx hb dX6_goose_68 rfl (lv_at hl 0 rfl) ?_
      refine va_get (C := RX6) (T := TX6) (N := 11) (ci := 6) (v := .ref ((ado 1) 0)) hx hb hts inX6 hown hT hP 0 rfl rfl 0 (Nat.le_of_ble_eq_true rfl) lk12 (fun _ h => h) rfl dX6_goose_69 ?_
      refine va_getN (C := RX0) (T := TX0) (N := 13) (ci := 0) (v := .ref ((ado 1) 3)) hx hb hts inX0 hown hT hP 4 rfl rfl 5 (Nat.le_of_ble_eq_true rfl) lk135 (fun _ h => h) rfl dX6_goose_72 ?_
      refine lv_iload_n hx hb dX6_goose_75 rfl (lv_at hl 1 rfl) ?_
      obtain ⟨hg, hf⟩ := gd_e hf
      refine va_iald (f := fnow 3) hx hb hT hP 7 0 rfl rfl (inb_e hg) dX6_goose_76 ?_
      have hK9 := K0_of hf hK
      exact hRet (fnow 3 x1.toNatClampNeg) _ _ _ _ hK9 dX6_goose_77 hP hD hS
    have hf := if_f hf hs2
    by_cases hs3 : x2 = (nI 3)
    · have hf := if_t hf hs3
      refine lv_tableIn (tgt := 78) hx hb dX6_goose_14 (by rw [hs3]; decide) (by rw [hs3]; decide) (by rw [hs3]; rfl) (by decide) ?_
      refine lv_aload_n hx hb dX6_goose_78 rfl (lv_at hl 0 rfl) ?_
      refine va_get (C := RX6) (T := TX6) (N := 11) (ci := 6) (v := .ref ((ado 1) 0)) hx hb hts inX6 hown hT hP 0 rfl rfl 0 (Nat.le_of_ble_eq_true rfl) lk12 (fun _ h => h) rfl dX6_goose_79 ?_
      refine lv_iload_n hx hb dX6_goose_82 rfl (lv_at hl 1 rfl) ?_
      obtain ⟨r83, hc83, hf⟩ := bd_e hf
      refine cl_i_ro (Wd := (wX6 G ad ado f ++ (wX0 G (ado 1) fnow))) (Wc := (wX0 G (ado 1) fnow)) [4, 5, 6, 7, 8, 9, 10, 11, 12, 13, 14] rfl (va_runVN (As := [.int x1]) (rest := []) hC (c_X0_feathersOf l G (ado 1) fnow x1 r83 hc83 _) ⟨va_cnB 1 hts gX6_goose_X0_feathersOf_n138 rfl rfl rfl (hE.2.2 (RX6, 138, yX0_feathersOf, "FeatherShares") (List.mem_of_getElem? (i := 11) rfl)) (hts (.initialized RX0) (by decide +kernel)) (by decide +kernel) ⟨Nat.le_of_ble_eq_true rfl, Nat.le_of_ble_eq_true rfl⟩, hts (.instanceMethod yX0_feathersOf) (by decide +kernel), hts (.selects RX0 yX0_feathersOf yX0_feathersOf) (by decide +kernel)⟩ ⟨Pc0_blind, va_recv hT hP (q0 := 4) (ci := 0) rfl rfl, fun U hU hW => Pc0_at (Wd := (wX0 G (ado 1) fnow)) hE (hP.subm [4, 5, 6, 7, 8, 9, 10, 11, 12, 13, 14] rfl) (hD.sub [4, 5, 6, 7, 8, 9, 10, 11, 12, 13, 14] (by decide) rfl) hU hW⟩ rfl rfl hl.1 rfl (lv_room (Nat.le_of_ble_eq_true rfl)) dX6_goose_83 ⟨Nat.zero_le _, Nat.zero_le _⟩) hS hA hP hD (fun H locs hP hD hS => ?_)
      have hK9 := K0_of hf hK
      exact hRet r83 _ _ _ _ hK9 dX6_goose_86 hP hD hS
    have hf := if_f hf hs3
    by_cases hs4 : x2 = (nI 4)
    · have hf := if_t hf hs4
      refine lv_tableIn (tgt := 87) hx hb dX6_goose_14 (by rw [hs4]; decide) (by rw [hs4]; decide) (by rw [hs4]; rfl) (by decide) ?_
      refine lv_aload_n hx hb dX6_goose_87 rfl (lv_at hl 0 rfl) ?_
      refine va_get (C := RX6) (T := TX6) (N := 11) (ci := 6) (v := .ref ((ado 1) 0)) hx hb hts inX6 hown hT hP 0 rfl rfl 0 (Nat.le_of_ble_eq_true rfl) lk12 (fun _ h => h) rfl dX6_goose_88 ?_
      refine lv_iload_n hx hb dX6_goose_91 rfl (lv_at hl 1 rfl) ?_
      obtain ⟨r92, hc92, hf⟩ := bd_e hf
      refine cl_i_ro (Wd := (wX6 G ad ado f ++ (wX0 G (ado 1) fnow))) (Wc := (wX0 G (ado 1) fnow)) [4, 5, 6, 7, 8, 9, 10, 11, 12, 13, 14] rfl (va_runVN (As := [.int x1]) (rest := []) hC (c_X0_eggOwner l G (ado 1) fnow x1 r92 hc92 _) ⟨va_cnB 1 hts gX6_goose_X0_eggOwner_n142 rfl rfl rfl (hE.2.2 (RX6, 142, yX0_eggOwner, "FeatherShares") (List.mem_of_getElem? (i := 12) rfl)) (hts (.initialized RX0) (by decide +kernel)) (by decide +kernel) ⟨Nat.le_of_ble_eq_true rfl, Nat.le_of_ble_eq_true rfl⟩, hts (.instanceMethod yX0_eggOwner) (by decide +kernel), hts (.selects RX0 yX0_eggOwner yX0_eggOwner) (by decide +kernel)⟩ ⟨Pc0_blind, va_recv hT hP (q0 := 4) (ci := 0) rfl rfl, fun U hU hW => Pc0_at (Wd := (wX0 G (ado 1) fnow)) hE (hP.subm [4, 5, 6, 7, 8, 9, 10, 11, 12, 13, 14] rfl) (hD.sub [4, 5, 6, 7, 8, 9, 10, 11, 12, 13, 14] (by decide) rfl) hU hW⟩ rfl rfl hl.1 rfl (lv_room (Nat.le_of_ble_eq_true rfl)) dX6_goose_92 ⟨Nat.zero_le _, Nat.zero_le _⟩) hS hA hP hD (fun H locs hP hD hS => ?_)
      have hK9 := K0_of hf hK
      exact hRet r92 _ _ _ _ hK9 dX6_goose_95 hP hD hS
    have hf := if_f hf hs4
    have hout : x2.toInt < 0 ∨ 4 < x2.toInt := by
      have t0 := ne_int hs0 (by decide)
      have t1 := ne_int hs1 (by decide)
      have t2 := ne_int hs2 (by decide)
      have t3 := ne_int hs3 (by decide)
      have t4 := ne_int hs4 (by decide)
      omega
    refine lv_tableOut (tgt := 96) hx hb dX6_goose_14 hout (by decide) ?_
    refine lv_iconst (v := (-1 : Int32)) hx hb dX6_goose_96 (ic_m1) ?_
    have hK9 := K0_of hf hK
    exact hRet (-1 : Int32) _ _ _ _ hK9 dX6_goose_97 hP hD hS
  · have hf := if_t hf hc
    refine lv_iconst (v := (-1 : Int32)) hx hb dX6_goose_11 (ic_m1) ?_
    have hK9 := K0_of hf hK
    exact hRet (-1 : Int32) _ _ _ _ hK9 dX6_goose_12 hP hD hS
noncomputable def p_X6_owner (f : Mem) (fnow : Mem) (x1 : Int32) (x2 : Int32) : Option (Int32) :=
  Option.bind (p_X6_isOwner x1) <| fun r1 =>
  if r1 = 0 then
    (some (-1 : Int32))
  else
    (Option.bind (p_X0_ofOwner fnow x1 x2) <| fun r13 =>
     some r13)
set_option maxHeartbeats 4000000 in
set_option maxRecDepth 100000 in
theorem c_X6_owner (l : Launch) (G : Gt) (ad : Nat → Nat) (ado : Nat → Nat → Nat) (f : Mem) (fnow : Mem) (x1 : Int32) (x2 : Int32) (r : Int32) (hf : p_X6_owner f fnow x1 x2 = some r) (sz : Nat) : Met l yX6_owner wsX6_owner ({ frames := 5, cells := 0, slots := 0, locals := 102 }) (Pc0 G sz [.ref (ad 0), .int x1, .int x2] (wX6 G ad ado f ++ (wX0 G (ado 1) fnow))) (Qi0 G (va_A (wX6 G ad ado f ++ (wX0 G (ado 1) fnow)) sz) r (wX6 G ad ado f ++ (wX0 G (ado 1) fnow))) 0 0 (va_A (wX6 G ad ado f ++ (wX0 G (ado 1) fnow)) sz) := by
  refine metP (Qf := fun A => Qi0 G A r (wX6 G ad ado f ++ (wX0 G (ado 1) fnow))) cX6_owner 3 (some .int) (by decide) rfl (Nat.le_of_ble_eq_true rfl) ?_
  intro p e s m below meth c A ls hC hr hlocks hin hE hA hsz hP hD hS hl
  generalize hargs : ([.ref (ad 0), .int x1, .int x2] : List Value).toArray = args at hC ⊢
  obtain ⟨hx, hb, hml, hown, hts⟩ := id hC
  have hT : va_K G.1 vwCl (tyL G) s := hE.1
  have hRet : ∀ (r9 : Int32) (H : Heap) (locs : List Loc) (ls : Array Slot) (pc : Nat) (hK9 : r9 = r) (hdg : decode cX6_owner pc = .ok (.ireturn, 1)), va_P G.1 vwCl (wX6 G ad ado f ++ (wX0 G (ado 1) fnow)) H → va_D A (wX6 G ad ado f ++ (wX0 G (ado 1) fnow)) → va_S A s.heap H locs → W p l e ({ frames := 5, cells := 0, slots := 0, locals := 102 }) s m args below meth c H locs 0 0 (MQ below (Qi0 G A r (wX6 G ad ado f ++ (wX0 G (ado 1) fnow))) args s 0 0 A) (F0 m pc ls [.int r9]) := by
    intro r9 H locs ls pc hK9 hdg hP hD hS
    cases hK9
    exact W.iret hx hb hr (fun t ht hW => ⟨⟨r, (), rfl, rfl, by rw [ht]; exact hP, hD⟩, hS.F ht⟩) hS.2.2 hdg hlocks
  generalize MQ below (Qi0 G A r (wX6 G ad ado f ++ (wX0 G (ado 1) fnow))) args s 0 0 A = Q at hRet ⊢
  have lk12 := hts (.fieldLink RX6 12 "FeatherShares" "now" "LFeatherShares$Flock;") (by decide +kernel)
  have inX6 : ∀ w ∈ u_ws RX6 TX6 11, w ∈ wsX6_owner := by decide +kernel
  have hl : lv_has ls 3 [(0, .ref (ad 0)), (1, .int x1), (2, .int x2)] := hl
  have hK0 : r = r := rfl
  obtain ⟨res, hres, hK⟩ : ∃ res, p_X6_owner f fnow x1 x2 = some res ∧ res = r := ⟨_, hf, rfl⟩
  clear hf
  have hf := hres
  clear hres
  unfold p_X6_owner at hf
  refine lv_iload_n hx hb dX6_owner_0 rfl (lv_at hl 1 rfl) ?_
  obtain ⟨r1, hc1, hf⟩ := bd_e hf
  refine cl_z_ro (Wd := (wX6 G ad ado f ++ (wX0 G (ado 1) fnow))) (Wc := ([] : va_W)) [] rfl (va_runS (As := [.int x1]) (rest := []) hC (c_X6_isOwner l G x1 r1 hc1 _) (va_cwS 1 hts gX6_owner_X6_isOwner rfl rfl rfl (by decide +kernel) ⟨Nat.le_of_ble_eq_true rfl, Nat.le_of_ble_eq_true rfl⟩) ⟨Pc0_blind, fun U hU hW => Pc0_at (Wd := ([] : va_W)) hE (hP.subm [] rfl) (hD.sub [] (by decide) rfl) hU hW⟩ rfl rfl hl.1 rfl (lv_room (Nat.le_of_ble_eq_true rfl)) dX6_owner_1 ⟨Nat.zero_le _, Nat.zero_le _⟩) hS hA hP hD (fun H locs hn1 hP hD hS => ?_)
  refine lv_if_eq (tgt := 19) hx hb dX6_owner_4 (by decide) (fun hc => ?_) (fun hc => ?_)
  · have hf := if_t hf hc
    refine lv_iconst (v := (-1 : Int32)) hx hb dX6_owner_19 (ic_m1) ?_
    have hK9 := K0_of hf hK
    exact hRet (-1 : Int32) _ _ _ _ hK9 dX6_owner_20 hP hD hS
  · have hf := if_f hf hc
    refine lv_aload_n hx hb dX6_owner_7 rfl (lv_at hl 0 rfl) ?_
    refine va_get (C := RX6) (T := TX6) (N := 11) (ci := 6) (v := .ref ((ado 1) 0)) hx hb hts inX6 hown hT hP 0 rfl rfl 0 (Nat.le_of_ble_eq_true rfl) lk12 (fun _ h => h) rfl dX6_owner_8 ?_
    refine lv_iload_n hx hb dX6_owner_11 rfl (lv_at hl 1 rfl) ?_
    refine lv_iload_n hx hb dX6_owner_12 rfl (lv_at hl 2 rfl) ?_
    obtain ⟨r13, hc13, hf⟩ := bd_e hf
    refine cl_i_ro (Wd := (wX6 G ad ado f ++ (wX0 G (ado 1) fnow))) (Wc := (wX0 G (ado 1) fnow)) [4, 5, 6, 7, 8, 9, 10, 11, 12, 13, 14] rfl (va_runVN (As := [.int x1, .int x2]) (rest := []) hC (c_X0_ofOwner l G (ado 1) fnow x1 x2 r13 hc13 _) ⟨va_cnB 2 hts gX6_owner_X0_ofOwner_n148 rfl rfl rfl (hE.2.2 (RX6, 148, yX0_ofOwner, "FeatherShares") (List.mem_of_getElem? (i := 13) rfl)) (hts (.initialized RX0) (by decide +kernel)) (by decide +kernel) ⟨Nat.le_of_ble_eq_true rfl, Nat.le_of_ble_eq_true rfl⟩, hts (.instanceMethod yX0_ofOwner) (by decide +kernel), hts (.selects RX0 yX0_ofOwner yX0_ofOwner) (by decide +kernel)⟩ ⟨Pc0_blind, va_recv hT hP (q0 := 4) (ci := 0) rfl rfl, fun U hU hW => Pc0_at (Wd := (wX0 G (ado 1) fnow)) hE (hP.subm [4, 5, 6, 7, 8, 9, 10, 11, 12, 13, 14] rfl) (hD.sub [4, 5, 6, 7, 8, 9, 10, 11, 12, 13, 14] (by decide) rfl) hU hW⟩ rfl rfl hl.1 rfl (lv_room (Nat.le_of_ble_eq_true rfl)) dX6_owner_13 ⟨Nat.zero_le _, Nat.zero_le _⟩) hS hA hP hD (fun H locs hP hD hS => ?_)
    refine lv_goto (tgt := 20) hx hb dX6_owner_16 (by decide) ?_
    have hK9 := K0_of hf hK
    exact hRet r13 _ _ _ _ hK9 dX6_owner_20 hP hD hS
noncomputable def p_X6_share (f : Mem) (fnow : Mem) (x1 : Int32) (x2 : Int32) : Option (Int32) :=
  Option.bind (p_X0_hasGoose fnow x1) <| fun r5 =>
  if r5 = 0 then
    (some (-1 : Int32))
  else
    (Option.bind (p_X6_isOwner x2) <| fun r12 =>
     if r12 = 0 then
       (some (-1 : Int32))
     else
       (Option.bind (p_X0_held fnow x1 x2) <| fun r24 =>
        some r24))
set_option maxHeartbeats 4000000 in
set_option maxRecDepth 100000 in
theorem c_X6_share (l : Launch) (G : Gt) (ad : Nat → Nat) (ado : Nat → Nat → Nat) (f : Mem) (fnow : Mem) (x1 : Int32) (x2 : Int32) (r : Int32) (hf : p_X6_share f fnow x1 x2 = some r) (sz : Nat) : Met l yX6_share wsX6_share ({ frames := 3, cells := 0, slots := 0, locals := 55 }) (Pc0 G sz [.ref (ad 0), .int x1, .int x2] (wX6 G ad ado f ++ (wX0 G (ado 1) fnow))) (Qi0 G (va_A (wX6 G ad ado f ++ (wX0 G (ado 1) fnow)) sz) r (wX6 G ad ado f ++ (wX0 G (ado 1) fnow))) 0 0 (va_A (wX6 G ad ado f ++ (wX0 G (ado 1) fnow)) sz) := by
  refine metP (Qf := fun A => Qi0 G A r (wX6 G ad ado f ++ (wX0 G (ado 1) fnow))) cX6_share 3 (some .int) (by decide) rfl (Nat.le_of_ble_eq_true rfl) ?_
  intro p e s m below meth c A ls hC hr hlocks hin hE hA hsz hP hD hS hl
  generalize hargs : ([.ref (ad 0), .int x1, .int x2] : List Value).toArray = args at hC ⊢
  obtain ⟨hx, hb, hml, hown, hts⟩ := id hC
  have hT : va_K G.1 vwCl (tyL G) s := hE.1
  have hRet : ∀ (r9 : Int32) (H : Heap) (locs : List Loc) (ls : Array Slot) (pc : Nat) (hK9 : r9 = r) (hdg : decode cX6_share pc = .ok (.ireturn, 1)), va_P G.1 vwCl (wX6 G ad ado f ++ (wX0 G (ado 1) fnow)) H → va_D A (wX6 G ad ado f ++ (wX0 G (ado 1) fnow)) → va_S A s.heap H locs → W p l e ({ frames := 3, cells := 0, slots := 0, locals := 55 }) s m args below meth c H locs 0 0 (MQ below (Qi0 G A r (wX6 G ad ado f ++ (wX0 G (ado 1) fnow))) args s 0 0 A) (F0 m pc ls [.int r9]) := by
    intro r9 H locs ls pc hK9 hdg hP hD hS
    cases hK9
    exact W.iret hx hb hr (fun t ht hW => ⟨⟨r, (), rfl, rfl, by rw [ht]; exact hP, hD⟩, hS.F ht⟩) hS.2.2 hdg hlocks
  generalize MQ below (Qi0 G A r (wX6 G ad ado f ++ (wX0 G (ado 1) fnow))) args s 0 0 A = Q at hRet ⊢
  have lk12 := hts (.fieldLink RX6 12 "FeatherShares" "now" "LFeatherShares$Flock;") (by decide +kernel)
  have inX6 : ∀ w ∈ u_ws RX6 TX6 11, w ∈ wsX6_share := by decide +kernel
  have hl : lv_has ls 3 [(0, .ref (ad 0)), (1, .int x1), (2, .int x2)] := hl
  have hK0 : r = r := rfl
  obtain ⟨res, hres, hK⟩ : ∃ res, p_X6_share f fnow x1 x2 = some res ∧ res = r := ⟨_, hf, rfl⟩
  clear hf
  have hf := hres
  clear hres
  unfold p_X6_share at hf
  refine lv_aload_n hx hb dX6_share_0 rfl (lv_at hl 0 rfl) ?_
  refine va_get (C := RX6) (T := TX6) (N := 11) (ci := 6) (v := .ref ((ado 1) 0)) hx hb hts inX6 hown hT hP 0 rfl rfl 0 (Nat.le_of_ble_eq_true rfl) lk12 (fun _ h => h) rfl dX6_share_1 ?_
  refine lv_iload_n hx hb dX6_share_4 rfl (lv_at hl 1 rfl) ?_
  obtain ⟨r5, hc5, hf⟩ := bd_e hf
  refine cl_z_ro (Wd := (wX6 G ad ado f ++ (wX0 G (ado 1) fnow))) (Wc := (wX0 G (ado 1) fnow)) [4, 5, 6, 7, 8, 9, 10, 11, 12, 13, 14] rfl (va_runVN (As := [.int x1]) (rest := []) hC (c_X0_hasGoose l G (ado 1) fnow x1 r5 hc5 _) ⟨va_cnB 1 hts gX6_share_X0_hasGoose_n126 rfl rfl rfl (hE.2.2 (RX6, 126, yX0_hasGoose, "FeatherShares") (List.mem_of_getElem? (i := 10) rfl)) (hts (.initialized RX0) (by decide +kernel)) (by decide +kernel) ⟨Nat.le_of_ble_eq_true rfl, Nat.le_of_ble_eq_true rfl⟩, hts (.instanceMethod yX0_hasGoose) (by decide +kernel), hts (.selects RX0 yX0_hasGoose yX0_hasGoose) (by decide +kernel)⟩ ⟨Pc0_blind, va_recv hT hP (q0 := 4) (ci := 0) rfl rfl, fun U hU hW => Pc0_at (Wd := (wX0 G (ado 1) fnow)) hE (hP.subm [4, 5, 6, 7, 8, 9, 10, 11, 12, 13, 14] rfl) (hD.sub [4, 5, 6, 7, 8, 9, 10, 11, 12, 13, 14] (by decide) rfl) hU hW⟩ rfl rfl hl.1 rfl (lv_room (Nat.le_of_ble_eq_true rfl)) dX6_share_5 ⟨Nat.zero_le _, Nat.zero_le _⟩) hS hA hP hD (fun H locs hn5 hP hD hS => ?_)
  refine lv_if_eq (tgt := 30) hx hb dX6_share_8 (by decide) (fun hc => ?_) (fun hc => ?_)
  · have hf := if_t hf hc
    refine lv_iconst (v := (-1 : Int32)) hx hb dX6_share_30 (ic_m1) ?_
    have hK9 := K0_of hf hK
    exact hRet (-1 : Int32) _ _ _ _ hK9 dX6_share_31 hP hD hS
  · have hf := if_f hf hc
    refine lv_iload_n hx hb dX6_share_11 rfl (lv_at hl 2 rfl) ?_
    obtain ⟨r12, hc12, hf⟩ := bd_e hf
    refine cl_z_ro (Wd := (wX6 G ad ado f ++ (wX0 G (ado 1) fnow))) (Wc := ([] : va_W)) [] rfl (va_runS (As := [.int x2]) (rest := []) hC (c_X6_isOwner l G x2 r12 hc12 _) (va_cwS 1 hts gX6_share_X6_isOwner rfl rfl rfl (by decide +kernel) ⟨Nat.le_of_ble_eq_true rfl, Nat.le_of_ble_eq_true rfl⟩) ⟨Pc0_blind, fun U hU hW => Pc0_at (Wd := ([] : va_W)) hE (hP.subm [] rfl) (hD.sub [] (by decide) rfl) hU hW⟩ rfl rfl hl.1 rfl (lv_room (Nat.le_of_ble_eq_true rfl)) dX6_share_12 ⟨Nat.zero_le _, Nat.zero_le _⟩) hS hA hP hD (fun H locs hn12 hP hD hS => ?_)
    refine lv_if_eq (tgt := 30) hx hb dX6_share_15 (by decide) (fun hc => ?_) (fun hc => ?_)
    · have hf := if_t hf hc
      refine lv_iconst (v := (-1 : Int32)) hx hb dX6_share_30 (ic_m1) ?_
      have hK9 := K0_of hf hK
      exact hRet (-1 : Int32) _ _ _ _ hK9 dX6_share_31 hP hD hS
    · have hf := if_f hf hc
      refine lv_aload_n hx hb dX6_share_18 rfl (lv_at hl 0 rfl) ?_
      refine va_get (C := RX6) (T := TX6) (N := 11) (ci := 6) (v := .ref ((ado 1) 0)) hx hb hts inX6 hown hT hP 0 rfl rfl 0 (Nat.le_of_ble_eq_true rfl) lk12 (fun _ h => h) rfl dX6_share_19 ?_
      refine lv_iload_n hx hb dX6_share_22 rfl (lv_at hl 1 rfl) ?_
      refine lv_iload_n hx hb dX6_share_23 rfl (lv_at hl 2 rfl) ?_
      obtain ⟨r24, hc24, hf⟩ := bd_e hf
      refine cl_i_ro (Wd := (wX6 G ad ado f ++ (wX0 G (ado 1) fnow))) (Wc := (wX0 G (ado 1) fnow)) [4, 5, 6, 7, 8, 9, 10, 11, 12, 13, 14] rfl (va_runVN (As := [.int x1, .int x2]) (rest := []) hC (c_X0_held l G (ado 1) fnow x1 x2 r24 hc24 _) ⟨va_cnB 2 hts gX6_share_X0_held_n152 rfl rfl rfl (hE.2.2 (RX6, 152, yX0_held, "FeatherShares") (List.mem_of_getElem? (i := 14) rfl)) (hts (.initialized RX0) (by decide +kernel)) (by decide +kernel) ⟨Nat.le_of_ble_eq_true rfl, Nat.le_of_ble_eq_true rfl⟩, hts (.instanceMethod yX0_held) (by decide +kernel), hts (.selects RX0 yX0_held yX0_held) (by decide +kernel)⟩ ⟨Pc0_blind, va_recv hT hP (q0 := 4) (ci := 0) rfl rfl, fun U hU hW => Pc0_at (Wd := (wX0 G (ado 1) fnow)) hE (hP.subm [4, 5, 6, 7, 8, 9, 10, 11, 12, 13, 14] rfl) (hD.sub [4, 5, 6, 7, 8, 9, 10, 11, 12, 13, 14] (by decide) rfl) hU hW⟩ rfl rfl hl.1 rfl (lv_room (Nat.le_of_ble_eq_true rfl)) dX6_share_24 ⟨Nat.zero_le _, Nat.zero_le _⟩) hS hA hP hD (fun H locs hP hD hS => ?_)
      refine lv_goto (tgt := 31) hx hb dX6_share_27 (by decide) ?_
      have hK9 := K0_of hf hK
      exact hRet r24 _ _ _ _ hK9 dX6_share_31 hP hD hS
noncomputable def p_X6_trade (f : Mem) (fnow : Mem) (x1 : Int32) (x2 : Int32) : Option (Int32) :=
  Option.bind (p_X6_isWithin x1 (nI 0) ((fnow 0 2) - (nI 1))) <| fun r11 =>
  if r11 = 0 then
    (some (-1 : Int32))
  else
    (if x2 = (nI 0) then
       (gd (inb x1 6) <|
        some (fnow 7 x1.toNatClampNeg))
     else if x2 = (nI 1) then
       (gd (inb x1 6) <|
        some (fnow 8 x1.toNatClampNeg))
     else if x2 = (nI 2) then
       (gd (inb x1 6) <|
        some (fnow 9 x1.toNatClampNeg))
     else if x2 = (nI 3) then
       (gd (inb x1 6) <|
        some (fnow 10 x1.toNatClampNeg))
     else
       (some (-1 : Int32)))
set_option maxHeartbeats 4000000 in
set_option maxRecDepth 100000 in
theorem c_X6_trade (l : Launch) (G : Gt) (ad : Nat → Nat) (ado : Nat → Nat → Nat) (f : Mem) (fnow : Mem) (x1 : Int32) (x2 : Int32) (r : Int32) (hf : p_X6_trade f fnow x1 x2 = some r) (sz : Nat) : Met l yX6_trade wsX6_trade ({ frames := 2, cells := 0, slots := 0, locals := 34 }) (Pc0 G sz [.ref (ad 0), .int x1, .int x2] (wX6 G ad ado f ++ (wX0 G (ado 1) fnow))) (Qi0 G (va_A (wX6 G ad ado f ++ (wX0 G (ado 1) fnow)) sz) r (wX6 G ad ado f ++ (wX0 G (ado 1) fnow))) 0 0 (va_A (wX6 G ad ado f ++ (wX0 G (ado 1) fnow)) sz) := by
  refine metP (Qf := fun A => Qi0 G A r (wX6 G ad ado f ++ (wX0 G (ado 1) fnow))) cX6_trade 3 (some .int) (by decide) rfl (Nat.le_of_ble_eq_true rfl) ?_
  intro p e s m below meth c A ls hC hr hlocks hin hE hA hsz hP hD hS hl
  generalize hargs : ([.ref (ad 0), .int x1, .int x2] : List Value).toArray = args at hC ⊢
  obtain ⟨hx, hb, hml, hown, hts⟩ := id hC
  have hT : va_K G.1 vwCl (tyL G) s := hE.1
  have hRet : ∀ (r9 : Int32) (H : Heap) (locs : List Loc) (ls : Array Slot) (pc : Nat) (hK9 : r9 = r) (hdg : decode cX6_trade pc = .ok (.ireturn, 1)), va_P G.1 vwCl (wX6 G ad ado f ++ (wX0 G (ado 1) fnow)) H → va_D A (wX6 G ad ado f ++ (wX0 G (ado 1) fnow)) → va_S A s.heap H locs → W p l e ({ frames := 2, cells := 0, slots := 0, locals := 34 }) s m args below meth c H locs 0 0 (MQ below (Qi0 G A r (wX6 G ad ado f ++ (wX0 G (ado 1) fnow))) args s 0 0 A) (F0 m pc ls [.int r9]) := by
    intro r9 H locs ls pc hK9 hdg hP hD hS
    cases hK9
    exact W.iret hx hb hr (fun t ht hW => ⟨⟨r, (), rfl, rfl, by rw [ht]; exact hP, hD⟩, hS.F ht⟩) hS.2.2 hdg hlocks
  generalize MQ below (Qi0 G A r (wX6 G ad ado f ++ (wX0 G (ado 1) fnow))) args s 0 0 A = Q at hRet ⊢
  have lk12 := hts (.fieldLink RX6 12 "FeatherShares" "now" "LFeatherShares$Flock;") (by decide +kernel)
  have inX6 : ∀ w ∈ u_ws RX6 TX6 11, w ∈ wsX6_trade := by decide +kernel
  have lk109 := va_Nw.use (A := args) rfl (hE.2.1 (RX6, 109, "FeatherShares$Flock", "trades", "I", "FeatherShares") (List.mem_of_getElem? (i := 8) rfl))
  have inX0 : ∀ w ∈ u_ws RX0 TX0 13, w ∈ wsX6_trade := by decide +kernel
  have lk155 := va_Nw.use (A := args) rfl (hE.2.1 (RX6, 155, "FeatherShares$Flock", "planBuyer", "[I", "FeatherShares") (List.mem_of_getElem? (i := 14) rfl))
  have lk158 := va_Nw.use (A := args) rfl (hE.2.1 (RX6, 158, "FeatherShares$Flock", "planSeller", "[I", "FeatherShares") (List.mem_of_getElem? (i := 15) rfl))
  have lk161 := va_Nw.use (A := args) rfl (hE.2.1 (RX6, 161, "FeatherShares$Flock", "planGoose", "[I", "FeatherShares") (List.mem_of_getElem? (i := 16) rfl))
  have lk164 := va_Nw.use (A := args) rfl (hE.2.1 (RX6, 164, "FeatherShares$Flock", "planAmount", "[I", "FeatherShares") (List.mem_of_getElem? (i := 17) rfl))
  have hl : lv_has ls 3 [(0, .ref (ad 0)), (1, .int x1), (2, .int x2)] := hl
  have hK0 : r = r := rfl
  obtain ⟨res, hres, hK⟩ : ∃ res, p_X6_trade f fnow x1 x2 = some res ∧ res = r := ⟨_, hf, rfl⟩
  clear hf
  have hf := hres
  clear hres
  unfold p_X6_trade at hf
  refine lv_iload_n hx hb dX6_trade_0 rfl (lv_at hl 1 rfl) ?_
  refine lv_iconst (v := (nI 0)) hx hb dX6_trade_1 (ic_0) ?_
  refine lv_aload_n hx hb dX6_trade_2 rfl (lv_at hl 0 rfl) ?_
  refine va_get (C := RX6) (T := TX6) (N := 11) (ci := 6) (v := .ref ((ado 1) 0)) hx hb hts inX6 hown hT hP 0 rfl rfl 0 (Nat.le_of_ble_eq_true rfl) lk12 (fun _ h => h) rfl dX6_trade_3 ?_
  refine va_getN (C := RX0) (T := TX0) (N := 13) (ci := 0) (v := .int (fnow 0 2)) hx hb hts inX0 hown hT hP 4 rfl rfl 2 (Nat.le_of_ble_eq_true rfl) lk109 (fun _ h => h) rfl dX6_trade_6 ?_
  refine lv_iconst (v := (nI 1)) hx hb dX6_trade_9 (ic_1) ?_
  refine lv_isub hx hb dX6_trade_10 ?_
  obtain ⟨r11, hc11, hf⟩ := bd_e hf
  refine cl_z_ro (Wd := (wX6 G ad ado f ++ (wX0 G (ado 1) fnow))) (Wc := ([] : va_W)) [] rfl (va_runS (As := [.int x1, .int (nI 0), .int ((fnow 0 2) - (nI 1))]) (rest := []) hC (c_X6_isWithin l G x1 (nI 0) ((fnow 0 2) - (nI 1)) r11 hc11 _) (va_cwS 3 hts gX6_trade_X6_isWithin rfl rfl rfl (by decide +kernel) ⟨Nat.le_of_ble_eq_true rfl, Nat.le_of_ble_eq_true rfl⟩) ⟨Pc0_blind, fun U hU hW => Pc0_at (Wd := ([] : va_W)) hE (hP.subm [] rfl) (hD.sub [] (by decide) rfl) hU hW⟩ rfl rfl hl.1 rfl (lv_room (Nat.le_of_ble_eq_true rfl)) dX6_trade_11 ⟨Nat.zero_le _, Nat.zero_le _⟩) hS hA hP hD (fun H locs hn11 hP hD hS => ?_)
  refine lv_if_ne (tgt := 19) hx hb dX6_trade_14 (by decide) (fun hc => ?_) (fun hc => ?_)
  · have hf := if_f hf hc
    refine lv_iload_n hx hb dX6_trade_19 rfl (lv_at hl 2 rfl) ?_
    by_cases hs0 : x2 = (nI 0)
    · have hf := if_t hf hs0
      refine lv_tableIn (tgt := 52) hx hb dX6_trade_20 (by rw [hs0]; decide) (by rw [hs0]; decide) (by rw [hs0]; rfl) (by decide) ?_
      refine lv_aload_n hx hb dX6_trade_52 rfl (lv_at hl 0 rfl) ?_
      refine va_get (C := RX6) (T := TX6) (N := 11) (ci := 6) (v := .ref ((ado 1) 0)) hx hb hts inX6 hown hT hP 0 rfl rfl 0 (Nat.le_of_ble_eq_true rfl) lk12 (fun _ h => h) rfl dX6_trade_53 ?_
      refine va_getN (C := RX0) (T := TX0) (N := 13) (ci := 0) (v := .ref ((ado 1) 7)) hx hb hts inX0 hown hT hP 4 rfl rfl 9 (Nat.le_of_ble_eq_true rfl) lk155 (fun _ h => h) rfl dX6_trade_56 ?_
      refine lv_iload_n hx hb dX6_trade_59 rfl (lv_at hl 1 rfl) ?_
      obtain ⟨hg, hf⟩ := gd_e hf
      refine va_iald (f := fnow 7) hx hb hT hP 11 0 rfl rfl (inb_e hg) dX6_trade_60 ?_
      have hK9 := K0_of hf hK
      exact hRet (fnow 7 x1.toNatClampNeg) _ _ _ _ hK9 dX6_trade_61 hP hD hS
    have hf := if_f hf hs0
    by_cases hs1 : x2 = (nI 1)
    · have hf := if_t hf hs1
      refine lv_tableIn (tgt := 62) hx hb dX6_trade_20 (by rw [hs1]; decide) (by rw [hs1]; decide) (by rw [hs1]; rfl) (by decide) ?_
      refine lv_aload_n hx hb dX6_trade_62 rfl (lv_at hl 0 rfl) ?_
      refine va_get (C := RX6) (T := TX6) (N := 11) (ci := 6) (v := .ref ((ado 1) 0)) hx hb hts inX6 hown hT hP 0 rfl rfl 0 (Nat.le_of_ble_eq_true rfl) lk12 (fun _ h => h) rfl dX6_trade_63 ?_
      refine va_getN (C := RX0) (T := TX0) (N := 13) (ci := 0) (v := .ref ((ado 1) 8)) hx hb hts inX0 hown hT hP 4 rfl rfl 10 (Nat.le_of_ble_eq_true rfl) lk158 (fun _ h => h) rfl dX6_trade_66 ?_
      refine lv_iload_n hx hb dX6_trade_69 rfl (lv_at hl 1 rfl) ?_
      obtain ⟨hg, hf⟩ := gd_e hf
      refine va_iald (f := fnow 8) hx hb hT hP 12 0 rfl rfl (inb_e hg) dX6_trade_70 ?_
      have hK9 := K0_of hf hK
      exact hRet (fnow 8 x1.toNatClampNeg) _ _ _ _ hK9 dX6_trade_71 hP hD hS
    have hf := if_f hf hs1
    by_cases hs2 : x2 = (nI 2)
    · have hf := if_t hf hs2
      refine lv_tableIn (tgt := 72) hx hb dX6_trade_20 (by rw [hs2]; decide) (by rw [hs2]; decide) (by rw [hs2]; rfl) (by decide) ?_
      refine lv_aload_n hx hb dX6_trade_72 rfl (lv_at hl 0 rfl) ?_
      refine va_get (C := RX6) (T := TX6) (N := 11) (ci := 6) (v := .ref ((ado 1) 0)) hx hb hts inX6 hown hT hP 0 rfl rfl 0 (Nat.le_of_ble_eq_true rfl) lk12 (fun _ h => h) rfl dX6_trade_73 ?_
      refine va_getN (C := RX0) (T := TX0) (N := 13) (ci := 0) (v := .ref ((ado 1) 9)) hx hb hts inX0 hown hT hP 4 rfl rfl 11 (Nat.le_of_ble_eq_true rfl) lk161 (fun _ h => h) rfl dX6_trade_76 ?_
      refine lv_iload_n hx hb dX6_trade_79 rfl (lv_at hl 1 rfl) ?_
      obtain ⟨hg, hf⟩ := gd_e hf
      refine va_iald (f := fnow 9) hx hb hT hP 13 0 rfl rfl (inb_e hg) dX6_trade_80 ?_
      have hK9 := K0_of hf hK
      exact hRet (fnow 9 x1.toNatClampNeg) _ _ _ _ hK9 dX6_trade_81 hP hD hS
    have hf := if_f hf hs2
    by_cases hs3 : x2 = (nI 3)
    · have hf := if_t hf hs3
      refine lv_tableIn (tgt := 82) hx hb dX6_trade_20 (by rw [hs3]; decide) (by rw [hs3]; decide) (by rw [hs3]; rfl) (by decide) ?_
      refine lv_aload_n hx hb dX6_trade_82 rfl (lv_at hl 0 rfl) ?_
      refine va_get (C := RX6) (T := TX6) (N := 11) (ci := 6) (v := .ref ((ado 1) 0)) hx hb hts inX6 hown hT hP 0 rfl rfl 0 (Nat.le_of_ble_eq_true rfl) lk12 (fun _ h => h) rfl dX6_trade_83 ?_
      refine va_getN (C := RX0) (T := TX0) (N := 13) (ci := 0) (v := .ref ((ado 1) 10)) hx hb hts inX0 hown hT hP 4 rfl rfl 12 (Nat.le_of_ble_eq_true rfl) lk164 (fun _ h => h) rfl dX6_trade_86 ?_
      refine lv_iload_n hx hb dX6_trade_89 rfl (lv_at hl 1 rfl) ?_
      obtain ⟨hg, hf⟩ := gd_e hf
      refine va_iald (f := fnow 10) hx hb hT hP 14 0 rfl rfl (inb_e hg) dX6_trade_90 ?_
      have hK9 := K0_of hf hK
      exact hRet (fnow 10 x1.toNatClampNeg) _ _ _ _ hK9 dX6_trade_91 hP hD hS
    have hf := if_f hf hs3
    have hout : x2.toInt < 0 ∨ 3 < x2.toInt := by
      have t0 := ne_int hs0 (by decide)
      have t1 := ne_int hs1 (by decide)
      have t2 := ne_int hs2 (by decide)
      have t3 := ne_int hs3 (by decide)
      omega
    refine lv_tableOut (tgt := 92) hx hb dX6_trade_20 hout (by decide) ?_
    refine lv_iconst (v := (-1 : Int32)) hx hb dX6_trade_92 (ic_m1) ?_
    have hK9 := K0_of hf hK
    exact hRet (-1 : Int32) _ _ _ _ hK9 dX6_trade_93 hP hD hS
  · have hf := if_t hf hc
    refine lv_iconst (v := (-1 : Int32)) hx hb dX6_trade_17 (ic_m1) ?_
    have hK9 := K0_of hf hK
    exact hRet (-1 : Int32) _ _ _ _ hK9 dX6_trade_18 hP hD hS
noncomputable def p_X6_replaced (n0 : Nat) (g0 : Nat → Int32) (x1 : Int32) (x2 : Int32) : Option (Int32 × (Nat → Int32)) :=
  Option.bind (p_X6_isWithin x1 (nI 0) ((nI n0) - (nI 1))) <| fun r6 =>
  if r6 = 0 then
    (some ((-1 : Int32), g0))
  else
    (gd (inb x1 n0) <|
     gd (inb x1 n0) <|
     bnd (upd (g0) x1.toNatClampNeg x2) <| fun g21 =>
     some ((g0 x1.toNatClampNeg), g21))
set_option maxHeartbeats 4000000 in
set_option maxRecDepth 100000 in
theorem c_X6_replaced (l : Launch) (G : Gt) (aq0 : Nat) (n0 : Nat) (g0 : Nat → Int32) (x1 : Int32) (x2 : Int32) (r : Int32) (g0z : Nat → Int32) (hf : p_X6_replaced n0 g0 x1 x2 = some (r, g0z)) (sz : Nat) : Met l yX6_replaced wsX6_replaced ({ frames := 2, cells := 0, slots := 0, locals := 34 }) (Pc0 G sz [.ref aq0, .int x1, .int x2] (wRow G aq0 n0 g0)) (Qi0 G (va_A (wRow G aq0 n0 g0) sz) r (wRow G aq0 n0 g0z)) 0 0 (va_A (wRow G aq0 n0 g0) sz) := by
  refine metP (Qf := fun A => Qi0 G A r (wRow G aq0 n0 g0z)) cX6_replaced 4 (some .int) (by decide) rfl (Nat.le_of_ble_eq_true rfl) ?_
  intro p e s m below meth c A ls hC hr hlocks hin hE hA hsz hP hD hS hl
  generalize hargs : ([.ref aq0, .int x1, .int x2] : List Value).toArray = args at hC ⊢
  obtain ⟨hx, hb, hml, hown, hts⟩ := id hC
  have hT : va_K G.1 vwCl (tyL G) s := hE.1
  have hRet : ∀ (r9 : Int32) (g09 : Nat → Int32) (H : Heap) (locs : List Loc) (ls : Array Slot) (pc : Nat) (hK9 : (r9, g09) = (r, g0z)) (hdg : decode cX6_replaced pc = .ok (.ireturn, 1)), va_P G.1 vwCl (wRow G aq0 n0 g09) H → va_D A (wRow G aq0 n0 g09) → va_S A s.heap H locs → W p l e ({ frames := 2, cells := 0, slots := 0, locals := 34 }) s m args below meth c H locs 0 0 (MQ below (Qi0 G A r (wRow G aq0 n0 g0z)) args s 0 0 A) (F0 m pc ls [.int r9]) := by
    intro r9 g09 H locs ls pc hK9 hdg hP hD hS
    cases hK9
    exact W.iret hx hb hr (fun t ht hW => ⟨⟨r, (), rfl, rfl, by rw [ht]; exact hP, hD⟩, hS.F ht⟩) hS.2.2 hdg hlocks
  generalize MQ below (Qi0 G A r (wRow G aq0 n0 g0z)) args s 0 0 A = Q at hRet ⊢
  have hl : lv_has ls 4 [(0, .ref aq0), (1, .int x1), (2, .int x2)] := hl
  have hK0 : (r, g0z) = (r, g0z) := rfl
  obtain ⟨res, hres, hK⟩ : ∃ res, p_X6_replaced n0 g0 x1 x2 = some res ∧ res = (r, g0z) := ⟨_, hf, rfl⟩
  clear hf
  have hf := hres
  clear hres
  unfold p_X6_replaced at hf
  refine lv_iload_n hx hb dX6_replaced_0 rfl (lv_at hl 1 rfl) ?_
  refine lv_iconst (v := (nI 0)) hx hb dX6_replaced_1 (ic_0) ?_
  refine lv_aload_n hx hb dX6_replaced_2 rfl (lv_at hl 0 rfl) ?_
  refine va_alen (v := (nI n0)) hx hb hT hP 0 0 rfl rfl rfl dX6_replaced_3 ?_
  refine lv_iconst (v := (nI 1)) hx hb dX6_replaced_4 (ic_1) ?_
  refine lv_isub hx hb dX6_replaced_5 ?_
  obtain ⟨r6, hc6, hf⟩ := bd_e hf
  refine cl_z_ro (Wd := (wRow G aq0 n0 g0)) (Wc := ([] : va_W)) [] rfl (va_runS (As := [.int x1, .int (nI 0), .int ((nI n0) - (nI 1))]) (rest := []) hC (c_X6_isWithin l G x1 (nI 0) ((nI n0) - (nI 1)) r6 hc6 _) (va_cwS 3 hts gX6_replaced_X6_isWithin rfl rfl rfl (by decide +kernel) ⟨Nat.le_of_ble_eq_true rfl, Nat.le_of_ble_eq_true rfl⟩) ⟨Pc0_blind, fun U hU hW => Pc0_at (Wd := ([] : va_W)) hE (hP.subm [] rfl) (hD.sub [] (by decide) rfl) hU hW⟩ rfl rfl hl.1 rfl (lv_room (Nat.le_of_ble_eq_true rfl)) dX6_replaced_6 ⟨Nat.zero_le _, Nat.zero_le _⟩) hS hA hP hD (fun H locs hn6 hP hD hS => ?_)
  refine lv_if_ne (tgt := 14) hx hb dX6_replaced_9 (by decide) (fun hc => ?_) (fun hc => ?_)
  · have hf := if_f hf hc
    refine lv_aload_n hx hb dX6_replaced_14 rfl (lv_at hl 0 rfl) ?_
    refine lv_iload_n hx hb dX6_replaced_15 rfl (lv_at hl 1 rfl) ?_
    obtain ⟨hg, hf⟩ := gd_e hf
    refine va_iald (f := g0) hx hb hT hP 0 0 rfl rfl (inb_e hg) dX6_replaced_16 ?_
    refine lv_istore_n (lv' := [(3, .int (g0 x1.toNatClampNeg)), (0, .ref aq0), (1, .int x1), (2, .int x2)]) hx hb dX6_replaced_17 rfl hl (by decide) rfl (fun ls hl => ?_)
    refine lv_aload_n hx hb dX6_replaced_18 rfl (lv_at hl 1 rfl) ?_
    refine lv_iload_n hx hb dX6_replaced_19 rfl (lv_at hl 2 rfl) ?_
    refine lv_iload_n hx hb dX6_replaced_20 rfl (lv_at hl 3 rfl) ?_
    obtain ⟨hg, hf⟩ := gd_e hf
    obtain ⟨g21, eg21, hf⟩ := bnd_e hf
    refine va_iast (f := g0) hx hb hT hP hD hS 0 0 rfl rfl (inb_e hg) dX6_replaced_21 (fun H locs hP hD hS => ?_)
    rw [← eg21] at hP hD
    have hP : va_P G.1 vwCl (wRow G aq0 n0 g21) H := hP
    have hD : va_D A (wRow G aq0 n0 g21) := hD
    refine lv_iload_n hx hb dX6_replaced_22 rfl (lv_at hl 0 rfl) ?_
    have hK9 := K0_of hf hK
    exact hRet (g0 x1.toNatClampNeg) g21 _ _ _ _ hK9 dX6_replaced_23 hP hD hS
  · have hf := if_t hf hc
    refine lv_iconst (v := (-1 : Int32)) hx hb dX6_replaced_12 (ic_m1) ?_
    have hK9 := K0_of hf hK
    exact hRet (-1 : Int32) g0 _ _ _ _ hK9 dX6_replaced_13 hP hD hS
noncomputable def p_X6_alter (f : Mem) (fnow : Mem) (x1 : Int32) (x2 : Int32) (x3 : Int32) : Option (Int32 × Mem) :=
  Option.bind (p_X0_hasGoose fnow x1) <| fun r5 =>
  if r5 = 0 then
    (some ((-1 : Int32), fnow))
  else
    (if x2 = (nI 0) then
       (Option.bind (p_X6_isWithin x3 (nI 0) (nI 3)) <| fun r43 =>
        if r43 = 0 then
          (some ((-1 : Int32), fnow))
        else
          (Option.bind (p_X6_replaced 3 (fnow 1) x1 x3) <| fun (r58, g_58) =>
           some (r58, (mrow 1 (g_58) fnow))))
     else if x2 = (nI 1) then
       (Option.bind (p_X6_isOwner x3) <| fun r67 =>
        if r67 = 0 then
          (some ((-1 : Int32), fnow))
        else
          (Option.bind (p_X6_replaced 3 (fnow 2) x1 x3) <| fun (r82, g_82) =>
           some (r82, (mrow 2 (g_82) fnow))))
     else if x2 = (nI 2) then
       (Option.bind (p_X6_isWithin x3 (nI 1) (nI 9)) <| fun r94 =>
        if r94 = 0 then
          (some ((-1 : Int32), fnow))
        else
          (Option.bind (p_X6_replaced 3 (fnow 3) x1 x3) <| fun (r109, g_109) =>
           some (r109, (mrow 3 (g_109) fnow))))
     else
       (some ((-1 : Int32), fnow)))
set_option maxHeartbeats 4000000 in
set_option maxRecDepth 100000 in
theorem c_X6_alter (l : Launch) (G : Gt) (ad : Nat → Nat) (ado : Nat → Nat → Nat) (f : Mem) (fnow : Mem) (x1 : Int32) (x2 : Int32) (x3 : Int32) (r : Int32) (fnowz : Mem) (hf : p_X6_alter f fnow x1 x2 x3 = some (r, fnowz)) (sz : Nat) : Met l yX6_alter wsX6_alter ({ frames := 3, cells := 0, slots := 0, locals := 57 }) (Pc0 G sz [.ref (ad 0), .int x1, .int x2, .int x3] (wX6 G ad ado f ++ (wX0 G (ado 1) fnow))) (Qi0 G (va_A (wX6 G ad ado f ++ (wX0 G (ado 1) fnow)) sz) r (wX6 G ad ado f ++ (wX0 G (ado 1) fnowz))) 0 0 (va_A (wX6 G ad ado f ++ (wX0 G (ado 1) fnow)) sz) := by
  refine metP (Qf := fun A => Qi0 G A r (wX6 G ad ado f ++ (wX0 G (ado 1) fnowz))) cX6_alter 4 (some .int) (by decide) rfl (Nat.le_of_ble_eq_true rfl) ?_
  intro p e s m below meth c A ls hC hr hlocks hin hE hA hsz hP hD hS hl
  generalize hargs : ([.ref (ad 0), .int x1, .int x2, .int x3] : List Value).toArray = args at hC ⊢
  obtain ⟨hx, hb, hml, hown, hts⟩ := id hC
  have hT : va_K G.1 vwCl (tyL G) s := hE.1
  have hRet : ∀ (r9 : Int32) (fnow9 : Mem) (H : Heap) (locs : List Loc) (ls : Array Slot) (pc : Nat) (hK9 : (r9, fnow9) = (r, fnowz)) (hdg : decode cX6_alter pc = .ok (.ireturn, 1)), va_P G.1 vwCl (wX6 G ad ado f ++ (wX0 G (ado 1) fnow9)) H → va_D A (wX6 G ad ado f ++ (wX0 G (ado 1) fnow9)) → va_S A s.heap H locs → W p l e ({ frames := 3, cells := 0, slots := 0, locals := 57 }) s m args below meth c H locs 0 0 (MQ below (Qi0 G A r (wX6 G ad ado f ++ (wX0 G (ado 1) fnowz))) args s 0 0 A) (F0 m pc ls [.int r9]) := by
    intro r9 fnow9 H locs ls pc hK9 hdg hP hD hS
    cases hK9
    exact W.iret hx hb hr (fun t ht hW => ⟨⟨r, (), rfl, rfl, by rw [ht]; exact hP, hD⟩, hS.F ht⟩) hS.2.2 hdg hlocks
  generalize MQ below (Qi0 G A r (wX6 G ad ado f ++ (wX0 G (ado 1) fnowz))) args s 0 0 A = Q at hRet ⊢
  have lk12 := hts (.fieldLink RX6 12 "FeatherShares" "now" "LFeatherShares$Flock;") (by decide +kernel)
  have inX6 : ∀ w ∈ u_ws RX6 TX6 11, w ∈ wsX6_alter := by decide +kernel
  have lk129 := va_Nw.use (A := args) rfl (hE.2.1 (RX6, 129, "FeatherShares$Flock", "kind", "[I", "FeatherShares") (List.mem_of_getElem? (i := 11) rfl))
  have inX0 : ∀ w ∈ u_ws RX0 TX0 13, w ∈ wsX6_alter := by decide +kernel
  have lk132 := va_Nw.use (A := args) rfl (hE.2.1 (RX6, 132, "FeatherShares$Flock", "skin", "[I", "FeatherShares") (List.mem_of_getElem? (i := 12) rfl))
  have lk135 := va_Nw.use (A := args) rfl (hE.2.1 (RX6, 135, "FeatherShares$Flock", "price", "[I", "FeatherShares") (List.mem_of_getElem? (i := 13) rfl))
  have hl : lv_has ls 4 [(0, .ref (ad 0)), (1, .int x1), (2, .int x2), (3, .int x3)] := hl
  have hK0 : (r, fnowz) = (r, fnowz) := rfl
  obtain ⟨res, hres, hK⟩ : ∃ res, p_X6_alter f fnow x1 x2 x3 = some res ∧ res = (r, fnowz) := ⟨_, hf, rfl⟩
  clear hf
  have hf := hres
  clear hres
  unfold p_X6_alter at hf
  refine lv_aload_n hx hb dX6_alter_0 rfl (lv_at hl 0 rfl) ?_
  refine va_get (C := RX6) (T := TX6) (N := 11) (ci := 6) (v := .ref ((ado 1) 0)) hx hb hts inX6 hown hT hP 0 rfl rfl 0 (Nat.le_of_ble_eq_true rfl) lk12 (fun _ h => h) rfl dX6_alter_1 ?_
  refine lv_iload_n hx hb dX6_alter_4 rfl (lv_at hl 1 rfl) ?_
  obtain ⟨r5, hc5, hf⟩ := bd_e hf
  refine cl_z_ro (Wd := (wX6 G ad ado f ++ (wX0 G (ado 1) fnow))) (Wc := (wX0 G (ado 1) fnow)) [4, 5, 6, 7, 8, 9, 10, 11, 12, 13, 14] rfl (va_runVN (As := [.int x1]) (rest := []) hC (c_X0_hasGoose l G (ado 1) fnow x1 r5 hc5 _) ⟨va_cnB 1 hts gX6_alter_X0_hasGoose_n126 rfl rfl rfl (hE.2.2 (RX6, 126, yX0_hasGoose, "FeatherShares") (List.mem_of_getElem? (i := 10) rfl)) (hts (.initialized RX0) (by decide +kernel)) (by decide +kernel) ⟨Nat.le_of_ble_eq_true rfl, Nat.le_of_ble_eq_true rfl⟩, hts (.instanceMethod yX0_hasGoose) (by decide +kernel), hts (.selects RX0 yX0_hasGoose yX0_hasGoose) (by decide +kernel)⟩ ⟨Pc0_blind, va_recv hT hP (q0 := 4) (ci := 0) rfl rfl, fun U hU hW => Pc0_at (Wd := (wX0 G (ado 1) fnow)) hE (hP.subm [4, 5, 6, 7, 8, 9, 10, 11, 12, 13, 14] rfl) (hD.sub [4, 5, 6, 7, 8, 9, 10, 11, 12, 13, 14] (by decide) rfl) hU hW⟩ rfl rfl hl.1 rfl (lv_room (Nat.le_of_ble_eq_true rfl)) dX6_alter_5 ⟨Nat.zero_le _, Nat.zero_le _⟩) hS hA hP hD (fun H locs hn5 hP hD hS => ?_)
  refine lv_if_ne (tgt := 13) hx hb dX6_alter_8 (by decide) (fun hc => ?_) (fun hc => ?_)
  · have hf := if_f hf hc
    refine lv_iload_n hx hb dX6_alter_13 rfl (lv_at hl 2 rfl) ?_
    by_cases hs0 : x2 = (nI 0)
    · have hf := if_t hf hs0
      refine lv_tableIn (tgt := 40) hx hb dX6_alter_14 (by rw [hs0]; decide) (by rw [hs0]; decide) (by rw [hs0]; rfl) (by decide) ?_
      refine lv_iload_n hx hb dX6_alter_40 rfl (lv_at hl 3 rfl) ?_
      refine lv_iconst (v := (nI 0)) hx hb dX6_alter_41 (ic_0) ?_
      refine lv_iconst (v := (nI 3)) hx hb dX6_alter_42 (ic_3) ?_
      obtain ⟨r43, hc43, hf⟩ := bd_e hf
      refine cl_z_ro (Wd := (wX6 G ad ado f ++ (wX0 G (ado 1) fnow))) (Wc := ([] : va_W)) [] rfl (va_runS (As := [.int x3, .int (nI 0), .int (nI 3)]) (rest := []) hC (c_X6_isWithin l G x3 (nI 0) (nI 3) r43 hc43 _) (va_cwS 3 hts gX6_alter_X6_isWithin rfl rfl rfl (by decide +kernel) ⟨Nat.le_of_ble_eq_true rfl, Nat.le_of_ble_eq_true rfl⟩) ⟨Pc0_blind, fun U hU hW => Pc0_at (Wd := ([] : va_W)) hE (hP.subm [] rfl) (hD.sub [] (by decide) rfl) hU hW⟩ rfl rfl hl.1 rfl (lv_room (Nat.le_of_ble_eq_true rfl)) dX6_alter_43 ⟨Nat.zero_le _, Nat.zero_le _⟩) hS hA hP hD (fun H locs hn43 hP hD hS => ?_)
      refine lv_if_eq (tgt := 64) hx hb dX6_alter_46 (by decide) (fun hc => ?_) (fun hc => ?_)
      · have hf := if_t hf hc
        refine lv_iconst (v := (-1 : Int32)) hx hb dX6_alter_64 (ic_m1) ?_
        have hK9 := K0_of hf hK
        exact hRet (-1 : Int32) fnow _ _ _ _ hK9 dX6_alter_65 hP hD hS
      · have hf := if_f hf hc
        refine lv_aload_n hx hb dX6_alter_49 rfl (lv_at hl 0 rfl) ?_
        refine va_get (C := RX6) (T := TX6) (N := 11) (ci := 6) (v := .ref ((ado 1) 0)) hx hb hts inX6 hown hT hP 0 rfl rfl 0 (Nat.le_of_ble_eq_true rfl) lk12 (fun _ h => h) rfl dX6_alter_50 ?_
        refine va_getN (C := RX0) (T := TX0) (N := 13) (ci := 0) (v := .ref ((ado 1) 1)) hx hb hts inX0 hown hT hP 4 rfl rfl 3 (Nat.le_of_ble_eq_true rfl) lk129 (fun _ h => h) rfl dX6_alter_53 ?_
        refine lv_iload_n hx hb dX6_alter_56 rfl (lv_at hl 1 rfl) ?_
        refine lv_iload_n hx hb dX6_alter_57 rfl (lv_at hl 3 rfl) ?_
        obtain ⟨⟨r58, g_58⟩, hc58, hf⟩ := bd_e hf
        try dsimp only at hf
        refine cl_i_up (Wd := (wX6 G ad ado f ++ (wX0 G (ado 1) fnow))) (Wc := (wRow G ((ado 1) 1) 3 (fnow 1))) (W' := (wRow G ((ado 1) 1) 3 g_58)) (W2 := (wX6 G ad ado f ++ (wX0 G (ado 1) (mrow 1 (g_58) fnow)))) (Wr := ([0, 1, 2, 3, 4, 6, 7, 8, 9, 10, 11, 12, 13, 14] : List Nat).filterMap (fun i => (wX6 G ad ado f ++ (wX0 G (ado 1) fnow))[i]?)) [5] [0, 1, 2, 3, 4, 6, 7, 8, 9, 10, 11, 12, 13, 14] rfl rfl rfl rfl rfl rfl (va_runS (As := [.ref ((ado 1) 1), .int x1, .int x3]) (rest := []) hC (c_X6_replaced l G ((ado 1) 1) 3 (fnow 1) x1 x3 r58 g_58 hc58 _) (va_cwS 3 hts gX6_alter_X6_replaced rfl rfl rfl (by decide +kernel) ⟨Nat.le_of_ble_eq_true rfl, Nat.le_of_ble_eq_true rfl⟩) ⟨Pc0_blind, fun U hU hW => Pc0_at (Wd := (wRow G ((ado 1) 1) 3 (fnow 1))) hE (hP.subm [5] rfl) (hD.sub [5] (by decide) rfl) hU hW⟩ rfl rfl hl.1 rfl (lv_room (Nat.le_of_ble_eq_true rfl)) dX6_alter_58 ⟨Nat.zero_le _, Nat.zero_le _⟩) hS hA hP hD (fun H locs hP hD hS => ?_)
        refine lv_goto (tgt := 65) hx hb dX6_alter_61 (by decide) ?_
        have hK9 := K0_of hf hK
        exact hRet r58 (mrow 1 (g_58) fnow) _ _ _ _ hK9 dX6_alter_65 hP hD hS
    have hf := if_f hf hs0
    by_cases hs1 : x2 = (nI 1)
    · have hf := if_t hf hs1
      refine lv_tableIn (tgt := 66) hx hb dX6_alter_14 (by rw [hs1]; decide) (by rw [hs1]; decide) (by rw [hs1]; rfl) (by decide) ?_
      refine lv_iload_n hx hb dX6_alter_66 rfl (lv_at hl 3 rfl) ?_
      obtain ⟨r67, hc67, hf⟩ := bd_e hf
      refine cl_z_ro (Wd := (wX6 G ad ado f ++ (wX0 G (ado 1) fnow))) (Wc := ([] : va_W)) [] rfl (va_runS (As := [.int x3]) (rest := []) hC (c_X6_isOwner l G x3 r67 hc67 _) (va_cwS 1 hts gX6_alter_X6_isOwner rfl rfl rfl (by decide +kernel) ⟨Nat.le_of_ble_eq_true rfl, Nat.le_of_ble_eq_true rfl⟩) ⟨Pc0_blind, fun U hU hW => Pc0_at (Wd := ([] : va_W)) hE (hP.subm [] rfl) (hD.sub [] (by decide) rfl) hU hW⟩ rfl rfl hl.1 rfl (lv_room (Nat.le_of_ble_eq_true rfl)) dX6_alter_67 ⟨Nat.zero_le _, Nat.zero_le _⟩) hS hA hP hD (fun H locs hn67 hP hD hS => ?_)
      refine lv_if_eq (tgt := 88) hx hb dX6_alter_70 (by decide) (fun hc => ?_) (fun hc => ?_)
      · have hf := if_t hf hc
        refine lv_iconst (v := (-1 : Int32)) hx hb dX6_alter_88 (ic_m1) ?_
        have hK9 := K0_of hf hK
        exact hRet (-1 : Int32) fnow _ _ _ _ hK9 dX6_alter_89 hP hD hS
      · have hf := if_f hf hc
        refine lv_aload_n hx hb dX6_alter_73 rfl (lv_at hl 0 rfl) ?_
        refine va_get (C := RX6) (T := TX6) (N := 11) (ci := 6) (v := .ref ((ado 1) 0)) hx hb hts inX6 hown hT hP 0 rfl rfl 0 (Nat.le_of_ble_eq_true rfl) lk12 (fun _ h => h) rfl dX6_alter_74 ?_
        refine va_getN (C := RX0) (T := TX0) (N := 13) (ci := 0) (v := .ref ((ado 1) 2)) hx hb hts inX0 hown hT hP 4 rfl rfl 4 (Nat.le_of_ble_eq_true rfl) lk132 (fun _ h => h) rfl dX6_alter_77 ?_
        refine lv_iload_n hx hb dX6_alter_80 rfl (lv_at hl 1 rfl) ?_
        refine lv_iload_n hx hb dX6_alter_81 rfl (lv_at hl 3 rfl) ?_
        obtain ⟨⟨r82, g_82⟩, hc82, hf⟩ := bd_e hf
        try dsimp only at hf
        refine cl_i_up (Wd := (wX6 G ad ado f ++ (wX0 G (ado 1) fnow))) (Wc := (wRow G ((ado 1) 2) 3 (fnow 2))) (W' := (wRow G ((ado 1) 2) 3 g_82)) (W2 := (wX6 G ad ado f ++ (wX0 G (ado 1) (mrow 2 (g_82) fnow)))) (Wr := ([0, 1, 2, 3, 4, 5, 7, 8, 9, 10, 11, 12, 13, 14] : List Nat).filterMap (fun i => (wX6 G ad ado f ++ (wX0 G (ado 1) fnow))[i]?)) [6] [0, 1, 2, 3, 4, 5, 7, 8, 9, 10, 11, 12, 13, 14] rfl rfl rfl rfl rfl rfl (va_runS (As := [.ref ((ado 1) 2), .int x1, .int x3]) (rest := []) hC (c_X6_replaced l G ((ado 1) 2) 3 (fnow 2) x1 x3 r82 g_82 hc82 _) (va_cwS 3 hts gX6_alter_X6_replaced rfl rfl rfl (by decide +kernel) ⟨Nat.le_of_ble_eq_true rfl, Nat.le_of_ble_eq_true rfl⟩) ⟨Pc0_blind, fun U hU hW => Pc0_at (Wd := (wRow G ((ado 1) 2) 3 (fnow 2))) hE (hP.subm [6] rfl) (hD.sub [6] (by decide) rfl) hU hW⟩ rfl rfl hl.1 rfl (lv_room (Nat.le_of_ble_eq_true rfl)) dX6_alter_82 ⟨Nat.zero_le _, Nat.zero_le _⟩) hS hA hP hD (fun H locs hP hD hS => ?_)
        refine lv_goto (tgt := 89) hx hb dX6_alter_85 (by decide) ?_
        have hK9 := K0_of hf hK
        exact hRet r82 (mrow 2 (g_82) fnow) _ _ _ _ hK9 dX6_alter_89 hP hD hS
    have hf := if_f hf hs1
    by_cases hs2 : x2 = (nI 2)
    · have hf := if_t hf hs2
      refine lv_tableIn (tgt := 90) hx hb dX6_alter_14 (by rw [hs2]; decide) (by rw [hs2]; decide) (by rw [hs2]; rfl) (by decide) ?_
      refine lv_iload_n hx hb dX6_alter_90 rfl (lv_at hl 3 rfl) ?_
      refine lv_iconst (v := (nI 1)) hx hb dX6_alter_91 (ic_1) ?_
      refine lv_bipush (v := (nI 9)) hx hb dX6_alter_92 (bi_9) ?_
      obtain ⟨r94, hc94, hf⟩ := bd_e hf
      refine cl_z_ro (Wd := (wX6 G ad ado f ++ (wX0 G (ado 1) fnow))) (Wc := ([] : va_W)) [] rfl (va_runS (As := [.int x3, .int (nI 1), .int (nI 9)]) (rest := []) hC (c_X6_isWithin l G x3 (nI 1) (nI 9) r94 hc94 _) (va_cwS 3 hts gX6_alter_X6_isWithin rfl rfl rfl (by decide +kernel) ⟨Nat.le_of_ble_eq_true rfl, Nat.le_of_ble_eq_true rfl⟩) ⟨Pc0_blind, fun U hU hW => Pc0_at (Wd := ([] : va_W)) hE (hP.subm [] rfl) (hD.sub [] (by decide) rfl) hU hW⟩ rfl rfl hl.1 rfl (lv_room (Nat.le_of_ble_eq_true rfl)) dX6_alter_94 ⟨Nat.zero_le _, Nat.zero_le _⟩) hS hA hP hD (fun H locs hn94 hP hD hS => ?_)
      refine lv_if_eq (tgt := 115) hx hb dX6_alter_97 (by decide) (fun hc => ?_) (fun hc => ?_)
      · have hf := if_t hf hc
        refine lv_iconst (v := (-1 : Int32)) hx hb dX6_alter_115 (ic_m1) ?_
        have hK9 := K0_of hf hK
        exact hRet (-1 : Int32) fnow _ _ _ _ hK9 dX6_alter_116 hP hD hS
      · have hf := if_f hf hc
        refine lv_aload_n hx hb dX6_alter_100 rfl (lv_at hl 0 rfl) ?_
        refine va_get (C := RX6) (T := TX6) (N := 11) (ci := 6) (v := .ref ((ado 1) 0)) hx hb hts inX6 hown hT hP 0 rfl rfl 0 (Nat.le_of_ble_eq_true rfl) lk12 (fun _ h => h) rfl dX6_alter_101 ?_
        refine va_getN (C := RX0) (T := TX0) (N := 13) (ci := 0) (v := .ref ((ado 1) 3)) hx hb hts inX0 hown hT hP 4 rfl rfl 5 (Nat.le_of_ble_eq_true rfl) lk135 (fun _ h => h) rfl dX6_alter_104 ?_
        refine lv_iload_n hx hb dX6_alter_107 rfl (lv_at hl 1 rfl) ?_
        refine lv_iload_n hx hb dX6_alter_108 rfl (lv_at hl 3 rfl) ?_
        obtain ⟨⟨r109, g_109⟩, hc109, hf⟩ := bd_e hf
        try dsimp only at hf
        refine cl_i_up (Wd := (wX6 G ad ado f ++ (wX0 G (ado 1) fnow))) (Wc := (wRow G ((ado 1) 3) 3 (fnow 3))) (W' := (wRow G ((ado 1) 3) 3 g_109)) (W2 := (wX6 G ad ado f ++ (wX0 G (ado 1) (mrow 3 (g_109) fnow)))) (Wr := ([0, 1, 2, 3, 4, 5, 6, 8, 9, 10, 11, 12, 13, 14] : List Nat).filterMap (fun i => (wX6 G ad ado f ++ (wX0 G (ado 1) fnow))[i]?)) [7] [0, 1, 2, 3, 4, 5, 6, 8, 9, 10, 11, 12, 13, 14] rfl rfl rfl rfl rfl rfl (va_runS (As := [.ref ((ado 1) 3), .int x1, .int x3]) (rest := []) hC (c_X6_replaced l G ((ado 1) 3) 3 (fnow 3) x1 x3 r109 g_109 hc109 _) (va_cwS 3 hts gX6_alter_X6_replaced rfl rfl rfl (by decide +kernel) ⟨Nat.le_of_ble_eq_true rfl, Nat.le_of_ble_eq_true rfl⟩) ⟨Pc0_blind, fun U hU hW => Pc0_at (Wd := (wRow G ((ado 1) 3) 3 (fnow 3))) hE (hP.subm [7] rfl) (hD.sub [7] (by decide) rfl) hU hW⟩ rfl rfl hl.1 rfl (lv_room (Nat.le_of_ble_eq_true rfl)) dX6_alter_109 ⟨Nat.zero_le _, Nat.zero_le _⟩) hS hA hP hD (fun H locs hP hD hS => ?_)
        refine lv_goto (tgt := 116) hx hb dX6_alter_112 (by decide) ?_
        have hK9 := K0_of hf hK
        exact hRet r109 (mrow 3 (g_109) fnow) _ _ _ _ hK9 dX6_alter_116 hP hD hS
    have hf := if_f hf hs2
    have hout : x2.toInt < 0 ∨ 2 < x2.toInt := by
      have t0 := ne_int hs0 (by decide)
      have t1 := ne_int hs1 (by decide)
      have t2 := ne_int hs2 (by decide)
      omega
    refine lv_tableOut (tgt := 117) hx hb dX6_alter_14 hout (by decide) ?_
    refine lv_iconst (v := (-1 : Int32)) hx hb dX6_alter_117 (ic_m1) ?_
    have hK9 := K0_of hf hK
    exact hRet (-1 : Int32) fnow _ _ _ _ hK9 dX6_alter_118 hP hD hS
  · have hf := if_t hf hc
    refine lv_iconst (v := (-1 : Int32)) hx hb dX6_alter_11 (ic_m1) ?_
    have hK9 := K0_of hf hK
    exact hRet (-1 : Int32) fnow _ _ _ _ hK9 dX6_alter_12 hP hD hS
noncomputable def p_X6_purse (f : Mem) (fnow : Mem) (x1 : Int32) (x2 : Int32) : Option (Int32 × Mem) :=
  Option.bind (p_X6_isOwner x1) <| fun r1 =>
  if r1 = 0 then
    (some ((-1 : Int32), fnow))
  else
    (Option.bind (p_X6_isWithin x2 (nI 0) (nI 999)) <| fun r12 =>
     if r12 = 0 then
       (some ((-1 : Int32), fnow))
     else
       (Option.bind (p_X6_replaced 5 (fnow 5) x1 x2) <| fun (r27, g_27) =>
        some (r27, (mrow 5 (g_27) fnow))))
set_option maxHeartbeats 4000000 in
set_option maxRecDepth 100000 in
theorem c_X6_purse (l : Launch) (G : Gt) (ad : Nat → Nat) (ado : Nat → Nat → Nat) (f : Mem) (fnow : Mem) (x1 : Int32) (x2 : Int32) (r : Int32) (fnowz : Mem) (hf : p_X6_purse f fnow x1 x2 = some (r, fnowz)) (sz : Nat) : Met l yX6_purse wsX6_purse ({ frames := 3, cells := 0, slots := 0, locals := 57 }) (Pc0 G sz [.ref (ad 0), .int x1, .int x2] (wX6 G ad ado f ++ (wX0 G (ado 1) fnow))) (Qi0 G (va_A (wX6 G ad ado f ++ (wX0 G (ado 1) fnow)) sz) r (wX6 G ad ado f ++ (wX0 G (ado 1) fnowz))) 0 0 (va_A (wX6 G ad ado f ++ (wX0 G (ado 1) fnow)) sz) := by
  refine metP (Qf := fun A => Qi0 G A r (wX6 G ad ado f ++ (wX0 G (ado 1) fnowz))) cX6_purse 3 (some .int) (by decide) rfl (Nat.le_of_ble_eq_true rfl) ?_
  intro p e s m below meth c A ls hC hr hlocks hin hE hA hsz hP hD hS hl
  generalize hargs : ([.ref (ad 0), .int x1, .int x2] : List Value).toArray = args at hC ⊢
  obtain ⟨hx, hb, hml, hown, hts⟩ := id hC
  have hT : va_K G.1 vwCl (tyL G) s := hE.1
  have hRet : ∀ (r9 : Int32) (fnow9 : Mem) (H : Heap) (locs : List Loc) (ls : Array Slot) (pc : Nat) (hK9 : (r9, fnow9) = (r, fnowz)) (hdg : decode cX6_purse pc = .ok (.ireturn, 1)), va_P G.1 vwCl (wX6 G ad ado f ++ (wX0 G (ado 1) fnow9)) H → va_D A (wX6 G ad ado f ++ (wX0 G (ado 1) fnow9)) → va_S A s.heap H locs → W p l e ({ frames := 3, cells := 0, slots := 0, locals := 57 }) s m args below meth c H locs 0 0 (MQ below (Qi0 G A r (wX6 G ad ado f ++ (wX0 G (ado 1) fnowz))) args s 0 0 A) (F0 m pc ls [.int r9]) := by
    intro r9 fnow9 H locs ls pc hK9 hdg hP hD hS
    cases hK9
    exact W.iret hx hb hr (fun t ht hW => ⟨⟨r, (), rfl, rfl, by rw [ht]; exact hP, hD⟩, hS.F ht⟩) hS.2.2 hdg hlocks
  generalize MQ below (Qi0 G A r (wX6 G ad ado f ++ (wX0 G (ado 1) fnowz))) args s 0 0 A = Q at hRet ⊢
  have lk12 := hts (.fieldLink RX6 12 "FeatherShares" "now" "LFeatherShares$Flock;") (by decide +kernel)
  have inX6 : ∀ w ∈ u_ws RX6 TX6 11, w ∈ wsX6_purse := by decide +kernel
  have lk112 := va_Nw.use (A := args) rfl (hE.2.1 (RX6, 112, "FeatherShares$Flock", "money", "[I", "FeatherShares") (List.mem_of_getElem? (i := 9) rfl))
  have inX0 : ∀ w ∈ u_ws RX0 TX0 13, w ∈ wsX6_purse := by decide +kernel
  have hl : lv_has ls 3 [(0, .ref (ad 0)), (1, .int x1), (2, .int x2)] := hl
  have hK0 : (r, fnowz) = (r, fnowz) := rfl
  obtain ⟨res, hres, hK⟩ : ∃ res, p_X6_purse f fnow x1 x2 = some res ∧ res = (r, fnowz) := ⟨_, hf, rfl⟩
  clear hf
  have hf := hres
  clear hres
  unfold p_X6_purse at hf
  refine lv_iload_n hx hb dX6_purse_0 rfl (lv_at hl 1 rfl) ?_
  obtain ⟨r1, hc1, hf⟩ := bd_e hf
  refine cl_z_ro (Wd := (wX6 G ad ado f ++ (wX0 G (ado 1) fnow))) (Wc := ([] : va_W)) [] rfl (va_runS (As := [.int x1]) (rest := []) hC (c_X6_isOwner l G x1 r1 hc1 _) (va_cwS 1 hts gX6_purse_X6_isOwner rfl rfl rfl (by decide +kernel) ⟨Nat.le_of_ble_eq_true rfl, Nat.le_of_ble_eq_true rfl⟩) ⟨Pc0_blind, fun U hU hW => Pc0_at (Wd := ([] : va_W)) hE (hP.subm [] rfl) (hD.sub [] (by decide) rfl) hU hW⟩ rfl rfl hl.1 rfl (lv_room (Nat.le_of_ble_eq_true rfl)) dX6_purse_1 ⟨Nat.zero_le _, Nat.zero_le _⟩) hS hA hP hD (fun H locs hn1 hP hD hS => ?_)
  refine lv_if_eq (tgt := 33) hx hb dX6_purse_4 (by decide) (fun hc => ?_) (fun hc => ?_)
  · have hf := if_t hf hc
    refine lv_iconst (v := (-1 : Int32)) hx hb dX6_purse_33 (ic_m1) ?_
    have hK9 := K0_of hf hK
    exact hRet (-1 : Int32) fnow _ _ _ _ hK9 dX6_purse_34 hP hD hS
  · have hf := if_f hf hc
    refine lv_iload_n hx hb dX6_purse_7 rfl (lv_at hl 2 rfl) ?_
    refine lv_iconst (v := (nI 0)) hx hb dX6_purse_8 (ic_0) ?_
    refine lv_sipush (v := (nI 999)) hx hb dX6_purse_9 (si_999) ?_
    obtain ⟨r12, hc12, hf⟩ := bd_e hf
    refine cl_z_ro (Wd := (wX6 G ad ado f ++ (wX0 G (ado 1) fnow))) (Wc := ([] : va_W)) [] rfl (va_runS (As := [.int x2, .int (nI 0), .int (nI 999)]) (rest := []) hC (c_X6_isWithin l G x2 (nI 0) (nI 999) r12 hc12 _) (va_cwS 3 hts gX6_purse_X6_isWithin rfl rfl rfl (by decide +kernel) ⟨Nat.le_of_ble_eq_true rfl, Nat.le_of_ble_eq_true rfl⟩) ⟨Pc0_blind, fun U hU hW => Pc0_at (Wd := ([] : va_W)) hE (hP.subm [] rfl) (hD.sub [] (by decide) rfl) hU hW⟩ rfl rfl hl.1 rfl (lv_room (Nat.le_of_ble_eq_true rfl)) dX6_purse_12 ⟨Nat.zero_le _, Nat.zero_le _⟩) hS hA hP hD (fun H locs hn12 hP hD hS => ?_)
    refine lv_if_eq (tgt := 33) hx hb dX6_purse_15 (by decide) (fun hc => ?_) (fun hc => ?_)
    · have hf := if_t hf hc
      refine lv_iconst (v := (-1 : Int32)) hx hb dX6_purse_33 (ic_m1) ?_
      have hK9 := K0_of hf hK
      exact hRet (-1 : Int32) fnow _ _ _ _ hK9 dX6_purse_34 hP hD hS
    · have hf := if_f hf hc
      refine lv_aload_n hx hb dX6_purse_18 rfl (lv_at hl 0 rfl) ?_
      refine va_get (C := RX6) (T := TX6) (N := 11) (ci := 6) (v := .ref ((ado 1) 0)) hx hb hts inX6 hown hT hP 0 rfl rfl 0 (Nat.le_of_ble_eq_true rfl) lk12 (fun _ h => h) rfl dX6_purse_19 ?_
      refine va_getN (C := RX0) (T := TX0) (N := 13) (ci := 0) (v := .ref ((ado 1) 5)) hx hb hts inX0 hown hT hP 4 rfl rfl 7 (Nat.le_of_ble_eq_true rfl) lk112 (fun _ h => h) rfl dX6_purse_22 ?_
      refine lv_iload_n hx hb dX6_purse_25 rfl (lv_at hl 1 rfl) ?_
      refine lv_iload_n hx hb dX6_purse_26 rfl (lv_at hl 2 rfl) ?_
      obtain ⟨⟨r27, g_27⟩, hc27, hf⟩ := bd_e hf
      try dsimp only at hf
      refine cl_i_up (Wd := (wX6 G ad ado f ++ (wX0 G (ado 1) fnow))) (Wc := (wRow G ((ado 1) 5) 5 (fnow 5))) (W' := (wRow G ((ado 1) 5) 5 g_27)) (W2 := (wX6 G ad ado f ++ (wX0 G (ado 1) (mrow 5 (g_27) fnow)))) (Wr := ([0, 1, 2, 3, 4, 5, 6, 7, 8, 10, 11, 12, 13, 14] : List Nat).filterMap (fun i => (wX6 G ad ado f ++ (wX0 G (ado 1) fnow))[i]?)) [9] [0, 1, 2, 3, 4, 5, 6, 7, 8, 10, 11, 12, 13, 14] rfl rfl rfl rfl rfl rfl (va_runS (As := [.ref ((ado 1) 5), .int x1, .int x2]) (rest := []) hC (c_X6_replaced l G ((ado 1) 5) 5 (fnow 5) x1 x2 r27 g_27 hc27 _) (va_cwS 3 hts gX6_purse_X6_replaced rfl rfl rfl (by decide +kernel) ⟨Nat.le_of_ble_eq_true rfl, Nat.le_of_ble_eq_true rfl⟩) ⟨Pc0_blind, fun U hU hW => Pc0_at (Wd := (wRow G ((ado 1) 5) 5 (fnow 5))) hE (hP.subm [9] rfl) (hD.sub [9] (by decide) rfl) hU hW⟩ rfl rfl hl.1 rfl (lv_room (Nat.le_of_ble_eq_true rfl)) dX6_purse_27 ⟨Nat.zero_le _, Nat.zero_le _⟩) hS hA hP hD (fun H locs hP hD hS => ?_)
      refine lv_goto (tgt := 34) hx hb dX6_purse_30 (by decide) ?_
      have hK9 := K0_of hf hK
      exact hRet r27 (mrow 5 (g_27) fnow) _ _ _ _ hK9 dX6_purse_34 hP hD hS
