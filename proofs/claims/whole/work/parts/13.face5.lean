noncomputable def p_X6_forget (f : Mem) (fsightings : Mem) (x1 : Int32) : Option (Int32 × Mem) :=
  Option.bind (p_X6_isWithin x1 (nI 0) (fsightings 0 0)) <| fun r9 =>
  if r9 = 0 then
    (some ((-1 : Int32), fsightings))
  else
    (some ((fsightings 0 0), (mset 0 0 x1 fsightings)))
set_option maxHeartbeats 4000000 in
set_option maxRecDepth 100000 in
theorem c_X6_forget (l : Launch) (G : Gt) (ad : Nat → Nat) (ado : Nat → Nat → Nat) (f : Mem) (fsightings : Mem) (x1 : Int32) (r : Int32) (fsightingsz : Mem) (hf : p_X6_forget f fsightings x1 = some (r, fsightingsz)) (sz : Nat) : Met l yX6_forget wsX6_forget ({ frames := 2, cells := 0, slots := 0, locals := 34 }) (Pc0 G sz [.ref (ad 0), .int x1] (wX6 G ad ado f ++ (wX3 G (ado 8) fsightings))) (Qi0 G (va_A (wX6 G ad ado f ++ (wX3 G (ado 8) fsightings)) sz) r (wX6 G ad ado f ++ (wX3 G (ado 8) fsightingsz))) 0 0 (va_A (wX6 G ad ado f ++ (wX3 G (ado 8) fsightings)) sz) := by
  refine metP (Qf := fun A => Qi0 G A r (wX6 G ad ado f ++ (wX3 G (ado 8) fsightingsz))) cX6_forget 3 (some .int) (by decide) rfl (Nat.le_of_ble_eq_true rfl) ?_
  intro p e s m below meth c A ls hC hr hlocks hin hE hA hsz hP hD hS hl
  generalize hargs : ([.ref (ad 0), .int x1] : List Value).toArray = args at hC ⊢
  obtain ⟨hx, hb, hml, hown, hts⟩ := id hC
  have hT : va_K G.1 vwCl (tyL G) s := hE.1
  have hRet : ∀ (r9 : Int32) (fsightings9 : Mem) (H : Heap) (locs : List Loc) (ls : Array Slot) (pc : Nat) (hK9 : (r9, fsightings9) = (r, fsightingsz)) (hdg : decode cX6_forget pc = .ok (.ireturn, 1)), va_P G.1 vwCl (wX6 G ad ado f ++ (wX3 G (ado 8) fsightings9)) H → va_D A (wX6 G ad ado f ++ (wX3 G (ado 8) fsightings9)) → va_S A s.heap H locs → W p l e ({ frames := 2, cells := 0, slots := 0, locals := 34 }) s m args below meth c H locs 0 0 (MQ below (Qi0 G A r (wX6 G ad ado f ++ (wX3 G (ado 8) fsightingsz))) args s 0 0 A) (F0 m pc ls [.int r9]) := by
    intro r9 fsightings9 H locs ls pc hK9 hdg hP hD hS
    cases hK9
    exact W.iret hx hb hr (fun t ht hW => ⟨⟨r, (), rfl, rfl, by rw [ht]; exact hP, hD⟩, hS.F ht⟩) hS.2.2 hdg hlocks
  generalize MQ below (Qi0 G A r (wX6 G ad ado f ++ (wX3 G (ado 8) fsightingsz))) args s 0 0 A = Q at hRet ⊢
  have lk44 := hts (.fieldLink RX6 44 "FeatherShares" "sightings" "LFeatherShares$Sightings;") (by decide +kernel)
  have inX6 : ∀ w ∈ u_ws RX6 TX6 11, w ∈ wsX6_forget := by decide +kernel
  have lk97 := va_Nw.use (A := args) rfl (hE.2.1 (RX6, 97, "FeatherShares$Sightings", "size", "I", "FeatherShares") (List.mem_of_getElem? (i := 4) rfl))
  have inX3 : ∀ w ∈ u_ws RX3 TX3 5, w ∈ wsX6_forget := by decide +kernel
  have hl : lv_has ls 3 [(0, .ref (ad 0)), (1, .int x1)] := hl
  have hK0 : (r, fsightingsz) = (r, fsightingsz) := rfl
  obtain ⟨res, hres, hK⟩ : ∃ res, p_X6_forget f fsightings x1 = some res ∧ res = (r, fsightingsz) := ⟨_, hf, rfl⟩
  clear hf
  have hf := hres
  clear hres
  unfold p_X6_forget at hf
  refine lv_iload_n hx hb dX6_forget_0 rfl (lv_at hl 1 rfl) ?_
  refine lv_iconst (v := (nI 0)) hx hb dX6_forget_1 (ic_0) ?_
  refine lv_aload_n hx hb dX6_forget_2 rfl (lv_at hl 0 rfl) ?_
  refine va_get (C := RX6) (T := TX6) (N := 11) (ci := 6) (v := .ref ((ado 8) 0)) hx hb hts inX6 hown hT hP 0 rfl rfl 6 (Nat.le_of_ble_eq_true rfl) lk44 (fun _ h => h) rfl dX6_forget_3 ?_
  refine va_getN (C := RX3) (T := TX3) (N := 5) (ci := 3) (v := .int (fsightings 0 0)) hx hb hts inX3 hown hT hP 4 rfl rfl 0 (Nat.le_of_ble_eq_true rfl) lk97 (fun _ h => h) rfl dX6_forget_6 ?_
  obtain ⟨r9, hc9, hf⟩ := bd_e hf
  refine cl_z_ro (Wd := (wX6 G ad ado f ++ (wX3 G (ado 8) fsightings))) (Wc := ([] : va_W)) [] rfl (va_runS (As := [.int x1, .int (nI 0), .int (fsightings 0 0)]) (rest := []) hC (c_X6_isWithin l G x1 (nI 0) (fsightings 0 0) r9 hc9 _) (va_cwS 3 hts gX6_forget_X6_isWithin rfl rfl rfl (by decide +kernel) ⟨Nat.le_of_ble_eq_true rfl, Nat.le_of_ble_eq_true rfl⟩) ⟨Pc0_blind, fun U hU hW => Pc0_at (Wd := ([] : va_W)) hE (hP.subm [] rfl) (hD.sub [] (by decide) rfl) hU hW⟩ rfl rfl hl.1 rfl (lv_room (Nat.le_of_ble_eq_true rfl)) dX6_forget_9 ⟨Nat.zero_le _, Nat.zero_le _⟩) hS hA hP hD (fun H locs hn9 hP hD hS => ?_)
  refine lv_if_ne (tgt := 17) hx hb dX6_forget_12 (by decide) (fun hc => ?_) (fun hc => ?_)
  · have hf := if_f hf hc
    refine lv_aload_n hx hb dX6_forget_17 rfl (lv_at hl 0 rfl) ?_
    refine va_get (C := RX6) (T := TX6) (N := 11) (ci := 6) (v := .ref ((ado 8) 0)) hx hb hts inX6 hown hT hP 0 rfl rfl 6 (Nat.le_of_ble_eq_true rfl) lk44 (fun _ h => h) rfl dX6_forget_18 ?_
    refine va_getN (C := RX3) (T := TX3) (N := 5) (ci := 3) (v := .int (fsightings 0 0)) hx hb hts inX3 hown hT hP 4 rfl rfl 0 (Nat.le_of_ble_eq_true rfl) lk97 (fun _ h => h) rfl dX6_forget_21 ?_
    refine lv_istore_n (lv' := [(2, .int (fsightings 0 0)), (0, .ref (ad 0)), (1, .int x1)]) hx hb dX6_forget_24 rfl hl (by decide) rfl (fun ls hl => ?_)
    refine lv_aload_n hx hb dX6_forget_25 rfl (lv_at hl 1 rfl) ?_
    refine va_get (C := RX6) (T := TX6) (N := 11) (ci := 6) (v := .ref ((ado 8) 0)) hx hb hts inX6 hown hT hP 0 rfl rfl 6 (Nat.le_of_ble_eq_true rfl) lk44 (fun _ h => h) rfl dX6_forget_26 ?_
    refine lv_iload_n hx hb dX6_forget_29 rfl (lv_at hl 2 rfl) ?_
    refine va_putN (C := RX3) (T := TX3) (N := 5) (ci := 3) (ty := .int) (v := .int x1) hx hb hts inX3 tyX3 tyX3_ok nmX3 hown hT hP hD hS 4 rfl rfl 0 (Nat.le_of_ble_eq_true rfl) lk97 (fun _ h => h) rfl (by decide +kernel) rfl rfl (Nat.le_of_ble_eq_true rfl) dX6_forget_30 (fun H locs hP hD hS => ?_)
    have hP : va_P G.1 vwCl (wX6 G ad ado f ++ (wX3 G (ado 8) (mset 0 0 x1 fsightings))) H := hP
    have hD : va_D A (wX6 G ad ado f ++ (wX3 G (ado 8) (mset 0 0 x1 fsightings))) := hD
    refine lv_iload_n hx hb dX6_forget_33 rfl (lv_at hl 0 rfl) ?_
    have hK9 := K0_of hf hK
    exact hRet (fsightings 0 0) (mset 0 0 x1 fsightings) _ _ _ _ hK9 dX6_forget_34 hP hD hS
  · have hf := if_t hf hc
    refine lv_iconst (v := (-1 : Int32)) hx hb dX6_forget_15 (ic_m1) ?_
    have hK9 := K0_of hf hK
    exact hRet (-1 : Int32) fsightings _ _ _ _ hK9 dX6_forget_16 hP hD hS
noncomputable def p_X6_kindsAsSeen_L4 (f : Mem) (fnow : Mem) (fsightings : Mem) (x1 : Int32) (z : Int32 × Int32 × Mem) : Option ((Int32 × Int32 × Mem) ⊕ (Int32 × Mem)) :=
  match z with
  | (x2, x3, ftrial_) =>
    if (nI 4) ≤ x3 then
      (some (Sum.inr (x2, ftrial_)))
    else
      (Option.bind (p_X0_copyFrom ftrial_ fnow) <| fun ftrial_17 =>
       gd (inb x1 3) <|
       bnd (upd (ftrial_17 1) x1.toNatClampNeg x3) <| fun g29 =>
       Option.bind (p_X3_agreeWith fsightings (mrow 1 (g29) ftrial_17)) <| fun (r38, ftrial_38) =>
       if r38 = 0 then
         (some (Sum.inl (x2, (x3 + nI 1), ftrial_38)))
       else
         (some (Sum.inl ((x2 ||| ((nI 1) <<< (x3 &&& 31))), (x3 + nI 1), ftrial_38))))
noncomputable def p_X6_kindsAsSeen (f : Mem) (fnow : Mem) (ftrial : Mem) (fsightings : Mem) (x1 : Int32) : Option (Int32 × Mem) :=
  Option.bind (lp (p_X6_kindsAsSeen_L4 f fnow fsightings x1) ((nI 0), (nI 0), ftrial)) <| fun (y2_4, ftrial_4) =>
  some (y2_4, ftrial_4)
set_option maxHeartbeats 4000000 in
set_option maxRecDepth 100000 in
theorem c_X6_kindsAsSeen (l : Launch) (G : Gt) (ad : Nat → Nat) (ado : Nat → Nat → Nat) (f : Mem) (fnow : Mem) (ftrial : Mem) (fsightings : Mem) (x1 : Int32) (r : Int32) (ftrialz : Mem) (hf : p_X6_kindsAsSeen f fnow ftrial fsightings x1 = some (r, ftrialz)) (sz : Nat) : Met l yX6_kindsAsSeen wsX6_kindsAsSeen ({ frames := 5, cells := 0, slots := 0, locals := 132 }) (Pc0 G sz [.ref (ad 0), .int x1] (wX6 G ad ado f ++ (wX0 G (ado 1) fnow ++ (wX0 G (ado 2) ftrial ++ (wX3 G (ado 8) fsightings))))) (Qi0 G (va_A (wX6 G ad ado f ++ (wX0 G (ado 1) fnow ++ (wX0 G (ado 2) ftrial ++ (wX3 G (ado 8) fsightings)))) sz) r (wX6 G ad ado f ++ (wX0 G (ado 1) fnow ++ (wX0 G (ado 2) ftrialz ++ (wX3 G (ado 8) fsightings))))) 0 0 (va_A (wX6 G ad ado f ++ (wX0 G (ado 1) fnow ++ (wX0 G (ado 2) ftrial ++ (wX3 G (ado 8) fsightings)))) sz) := by
  refine metP (Qf := fun A => Qi0 G A r (wX6 G ad ado f ++ (wX0 G (ado 1) fnow ++ (wX0 G (ado 2) ftrialz ++ (wX3 G (ado 8) fsightings))))) cX6_kindsAsSeen 4 (some .int) (by decide) rfl (Nat.le_of_ble_eq_true rfl) ?_
  intro p e s m below meth c A ls hC hr hlocks hin hE hA hsz hP hD hS hl
  generalize hargs : ([.ref (ad 0), .int x1] : List Value).toArray = args at hC ⊢
  obtain ⟨hx, hb, hml, hown, hts⟩ := id hC
  have hT : va_K G.1 vwCl (tyL G) s := hE.1
  have hRet : ∀ (r9 : Int32) (ftrial9 : Mem) (H : Heap) (locs : List Loc) (ls : Array Slot) (pc : Nat) (hK9 : (r9, ftrial9) = (r, ftrialz)) (hdg : decode cX6_kindsAsSeen pc = .ok (.ireturn, 1)), va_P G.1 vwCl (wX6 G ad ado f ++ (wX0 G (ado 1) fnow ++ (wX0 G (ado 2) ftrial9 ++ (wX3 G (ado 8) fsightings)))) H → va_D A (wX6 G ad ado f ++ (wX0 G (ado 1) fnow ++ (wX0 G (ado 2) ftrial9 ++ (wX3 G (ado 8) fsightings)))) → va_S A s.heap H locs → W p l e ({ frames := 5, cells := 0, slots := 0, locals := 132 }) s m args below meth c H locs 0 0 (MQ below (Qi0 G A r (wX6 G ad ado f ++ (wX0 G (ado 1) fnow ++ (wX0 G (ado 2) ftrialz ++ (wX3 G (ado 8) fsightings))))) args s 0 0 A) (F0 m pc ls [.int r9]) := by
    intro r9 ftrial9 H locs ls pc hK9 hdg hP hD hS
    cases hK9
    exact W.iret hx hb hr (fun t ht hW => ⟨⟨r, (), rfl, rfl, by rw [ht]; exact hP, hD⟩, hS.F ht⟩) hS.2.2 hdg hlocks
  generalize MQ below (Qi0 G A r (wX6 G ad ado f ++ (wX0 G (ado 1) fnow ++ (wX0 G (ado 2) ftrialz ++ (wX3 G (ado 8) fsightings))))) args s 0 0 A = Q at hRet ⊢
  have lk16 := hts (.fieldLink RX6 16 "FeatherShares" "trial" "LFeatherShares$Flock;") (by decide +kernel)
  have inX6 : ∀ w ∈ u_ws RX6 TX6 11, w ∈ wsX6_kindsAsSeen := by decide +kernel
  have lk12 := hts (.fieldLink RX6 12 "FeatherShares" "now" "LFeatherShares$Flock;") (by decide +kernel)
  have lk129 := va_Nw.use (A := args) rfl (hE.2.1 (RX6, 129, "FeatherShares$Flock", "kind", "[I", "FeatherShares") (List.mem_of_getElem? (i := 11) rfl))
  have inX0 : ∀ w ∈ u_ws RX0 TX0 13, w ∈ wsX6_kindsAsSeen := by decide +kernel
  have lk44 := hts (.fieldLink RX6 44 "FeatherShares" "sightings" "LFeatherShares$Sightings;") (by decide +kernel)
  have hl : lv_has ls 4 [(0, .ref (ad 0)), (1, .int x1)] := hl
  have hK0 : (r, ftrialz) = (r, ftrialz) := rfl
  obtain ⟨res, hres, hK⟩ : ∃ res, p_X6_kindsAsSeen f fnow ftrial fsightings x1 = some res ∧ res = (r, ftrialz) := ⟨_, hf, rfl⟩
  clear hf
  have hf := hres
  clear hres
  unfold p_X6_kindsAsSeen at hf
  refine lv_iconst (v := (nI 0)) hx hb dX6_kindsAsSeen_0 (ic_0) ?_
  refine lv_istore_n (lv' := [(2, .int (nI 0)), (0, .ref (ad 0)), (1, .int x1)]) hx hb dX6_kindsAsSeen_1 rfl hl (by decide) rfl (fun ls hl => ?_)
  refine lv_iconst (v := (nI 0)) hx hb dX6_kindsAsSeen_2 (ic_0) ?_
  refine lv_istore_n (lv' := [(3, .int (nI 0)), (2, .int (nI 0)), (0, .ref (ad 0)), (1, .int x1)]) hx hb dX6_kindsAsSeen_3 rfl hl (by decide) rfl (fun ls hl => ?_)
  obtain ⟨⟨y2_4, ftrial_4⟩, hlp, hf⟩ := bd_e hf
  refine lp_W1 (p_X6_kindsAsSeen_L4 f fnow fsightings x1) (fun z => match z with | (x2, x3, ftrial_) => ∀ (H : Heap) (locs : List Loc) (ls : Array Slot), va_P G.1 vwCl (wX6 G ad ado f ++ (wX0 G (ado 1) fnow ++ (wX0 G (ado 2) ftrial_ ++ (wX3 G (ado 8) fsightings)))) H → va_D A (wX6 G ad ado f ++ (wX0 G (ado 1) fnow ++ (wX0 G (ado 2) ftrial_ ++ (wX3 G (ado 8) fsightings)))) → va_S A s.heap H locs → lv_has ls 4 [(0, .ref (ad 0)), (1, .int x1), (2, .int x2), (3, .int x3)] → W p l e ({ frames := 5, cells := 0, slots := 0, locals := 132 }) s m args below meth c H locs 0 0 Q (F0 m 4 ls [])) (fun z => match z with | (y2_4, ftrial_4) => ∀ (H : Heap) (locs : List Loc) (ls : Array Slot), va_P G.1 vwCl (wX6 G ad ado f ++ (wX0 G (ado 1) fnow ++ (wX0 G (ado 2) ftrial_4 ++ (wX3 G (ado 8) fsightings)))) H → va_D A (wX6 G ad ado f ++ (wX0 G (ado 1) fnow ++ (wX0 G (ado 2) ftrial_4 ++ (wX3 G (ado 8) fsightings)))) → va_S A s.heap H locs → lv_has ls 4 [(2, .int y2_4)] → W p l e ({ frames := 5, cells := 0, slots := 0, locals := 132 }) s m args below meth c H locs 0 0 Q (F0 m 56 ls [])) ?_ hlp ?_ _ _ _ hP hD hS (lv_sub hl [2, 3, 1, 0] rfl)
  · clear hlp hf hK hP hD hS hl
    intro K4 hW4 hX4 
    rintro ⟨x2, x3, ftrial_⟩ res hf hK H locs ls hP hD hS hl
    unfold p_X6_kindsAsSeen_L4 at hf
    dsimp only at hf
    refine lv_iload_n hx hb dX6_kindsAsSeen_4 rfl (lv_at hl 3 rfl) ?_
    refine lv_iconst (v := (nI 4)) hx hb dX6_kindsAsSeen_5 (ic_4) ?_
    refine lv_icmp_ge (tgt := 56) hx hb dX6_kindsAsSeen_6 (by decide) (fun hc => ?_) (fun hc => ?_)
    · have hf := if_t hf hc
      have hK9 := K_of hf hK
      have hK9 := hX4 _ hK9
      exact hK9 _ _ _ hP hD hS (lv_sub hl [2] rfl)
    · have hf := if_f hf hc
      refine lv_aload_n hx hb dX6_kindsAsSeen_9 rfl (lv_at hl 0 rfl) ?_
      refine va_get (C := RX6) (T := TX6) (N := 11) (ci := 6) (v := .ref ((ado 2) 0)) hx hb hts inX6 hown hT hP 0 rfl rfl 1 (Nat.le_of_ble_eq_true rfl) lk16 (fun _ h => h) rfl dX6_kindsAsSeen_10 ?_
      refine lv_aload_n hx hb dX6_kindsAsSeen_13 rfl (lv_at hl 0 rfl) ?_
      refine va_get (C := RX6) (T := TX6) (N := 11) (ci := 6) (v := .ref ((ado 1) 0)) hx hb hts inX6 hown hT hP 0 rfl rfl 0 (Nat.le_of_ble_eq_true rfl) lk12 (fun _ h => h) rfl dX6_kindsAsSeen_14 ?_
      obtain ⟨ftrial_17, hc17, hf⟩ := bd_e hf
      refine cl_v_up (Wd := (wX6 G ad ado f ++ (wX0 G (ado 1) fnow ++ (wX0 G (ado 2) ftrial_ ++ (wX3 G (ado 8) fsightings))))) (Wc := (wX0 G (ado 2) ftrial_ ++ (wX0 G (ado 1) fnow))) (W' := (wX0 G (ado 2) ftrial_17 ++ (wX0 G (ado 1) fnow))) (W2 := (wX6 G ad ado f ++ (wX0 G (ado 1) fnow ++ (wX0 G (ado 2) ftrial_17 ++ (wX3 G (ado 8) fsightings))))) (Wr := (wX6 G ad ado f ++ (wX3 G (ado 8) fsightings))) [15, 16, 17, 18, 19, 20, 21, 22, 23, 24, 25, 4, 5, 6, 7, 8, 9, 10, 11, 12, 13, 14] [0, 1, 2, 3, 26, 27, 28, 29, 30] rfl rfl rfl rfl rfl rfl (va_runVN (As := [.ref ((ado 1) 0)]) (rest := []) hC (c_X0_copyFrom l G (ado 2) (ado 1) ftrial_ fnow ftrial_17 hc17 _) ⟨va_cnB 1 hts gX6_kindsAsSeen_X0_copyFrom_n93 rfl rfl rfl (hE.2.2 (RX6, 93, yX0_copyFrom, "FeatherShares") (List.mem_of_getElem? (i := 8) rfl)) (hts (.initialized RX0) (by decide +kernel)) (by decide +kernel) ⟨Nat.le_of_ble_eq_true rfl, Nat.le_of_ble_eq_true rfl⟩, hts (.instanceMethod yX0_copyFrom) (by decide +kernel), hts (.selects RX0 yX0_copyFrom yX0_copyFrom) (by decide +kernel)⟩ ⟨Pc0_blind, va_recv hT hP (q0 := 15) (ci := 0) rfl rfl, fun U hU hW => Pc0_at (Wd := (wX0 G (ado 2) ftrial_ ++ (wX0 G (ado 1) fnow))) hE (hP.subm [15, 16, 17, 18, 19, 20, 21, 22, 23, 24, 25, 4, 5, 6, 7, 8, 9, 10, 11, 12, 13, 14] rfl) (hD.sub [15, 16, 17, 18, 19, 20, 21, 22, 23, 24, 25, 4, 5, 6, 7, 8, 9, 10, 11, 12, 13, 14] (by decide) rfl) hU hW⟩ rfl rfl hl.1 rfl (lv_room (Nat.le_of_ble_eq_true rfl)) dX6_kindsAsSeen_17 ⟨Nat.zero_le _, Nat.zero_le _⟩) hS hA hP hD (fun H locs hP hD hS => ?_)
      refine lv_aload_n hx hb dX6_kindsAsSeen_20 rfl (lv_at hl 0 rfl) ?_
      refine va_get (C := RX6) (T := TX6) (N := 11) (ci := 6) (v := .ref ((ado 2) 0)) hx hb hts inX6 hown hT hP 0 rfl rfl 1 (Nat.le_of_ble_eq_true rfl) lk16 (fun _ h => h) rfl dX6_kindsAsSeen_21 ?_
      refine va_getN (C := RX0) (T := TX0) (N := 13) (ci := 0) (v := .ref ((ado 2) 1)) hx hb hts inX0 hown hT hP 15 rfl rfl 3 (Nat.le_of_ble_eq_true rfl) lk129 (fun _ h => h) rfl dX6_kindsAsSeen_24 ?_
      refine lv_iload_n hx hb dX6_kindsAsSeen_27 rfl (lv_at hl 1 rfl) ?_
      refine lv_iload_n hx hb dX6_kindsAsSeen_28 rfl (lv_at hl 3 rfl) ?_
      obtain ⟨hg, hf⟩ := gd_e hf
      obtain ⟨g29, eg29, hf⟩ := bnd_e hf
      refine va_iast (f := ftrial_17 1) hx hb hT hP hD hS 16 0 rfl rfl (inb_e hg) dX6_kindsAsSeen_29 (fun H locs hP hD hS => ?_)
      rw [← eg29] at hP hD
      have hP : va_P G.1 vwCl (wX6 G ad ado f ++ (wX0 G (ado 1) fnow ++ (wX0 G (ado 2) (mrow 1 (g29) ftrial_17) ++ (wX3 G (ado 8) fsightings)))) H := hP
      have hD : va_D A (wX6 G ad ado f ++ (wX0 G (ado 1) fnow ++ (wX0 G (ado 2) (mrow 1 (g29) ftrial_17) ++ (wX3 G (ado 8) fsightings)))) := hD
      refine lv_aload_n hx hb dX6_kindsAsSeen_30 rfl (lv_at hl 0 rfl) ?_
      refine va_get (C := RX6) (T := TX6) (N := 11) (ci := 6) (v := .ref ((ado 8) 0)) hx hb hts inX6 hown hT hP 0 rfl rfl 6 (Nat.le_of_ble_eq_true rfl) lk44 (fun _ h => h) rfl dX6_kindsAsSeen_31 ?_
      refine lv_aload_n hx hb dX6_kindsAsSeen_34 rfl (lv_at hl 0 rfl) ?_
      refine va_get (C := RX6) (T := TX6) (N := 11) (ci := 6) (v := .ref ((ado 2) 0)) hx hb hts inX6 hown hT hP 0 rfl rfl 1 (Nat.le_of_ble_eq_true rfl) lk16 (fun _ h => h) rfl dX6_kindsAsSeen_35 ?_
      obtain ⟨⟨r38, ftrial_38⟩, hc38, hf⟩ := bd_e hf
      try dsimp only at hf
      refine cl_z_up (Wd := (wX6 G ad ado f ++ (wX0 G (ado 1) fnow ++ (wX0 G (ado 2) (mrow 1 (g29) ftrial_17) ++ (wX3 G (ado 8) fsightings))))) (Wc := (wX3 G (ado 8) fsightings ++ (wX0 G (ado 2) (mrow 1 (g29) ftrial_17)))) (W' := (wX3 G (ado 8) fsightings ++ (wX0 G (ado 2) ftrial_38))) (W2 := (wX6 G ad ado f ++ (wX0 G (ado 1) fnow ++ (wX0 G (ado 2) ftrial_38 ++ (wX3 G (ado 8) fsightings))))) (Wr := (wX6 G ad ado f ++ (wX0 G (ado 1) fnow))) [26, 27, 28, 29, 30, 15, 16, 17, 18, 19, 20, 21, 22, 23, 24, 25] [0, 1, 2, 3, 4, 5, 6, 7, 8, 9, 10, 11, 12, 13, 14] rfl rfl rfl rfl rfl rfl (va_runVN (As := [.ref ((ado 2) 0)]) (rest := []) hC (c_X3_agreeWith l G (ado 8) (ado 2) fsightings (mrow 1 (g29) ftrial_17) r38 ftrial_38 hc38 _) ⟨va_cnB 1 hts gX6_kindsAsSeen_X3_agreeWith_n270 rfl rfl rfl (hE.2.2 (RX6, 270, yX3_agreeWith, "FeatherShares") (List.mem_of_getElem? (i := 31) rfl)) (hts (.initialized RX3) (by decide +kernel)) (by decide +kernel) ⟨Nat.le_of_ble_eq_true rfl, Nat.le_of_ble_eq_true rfl⟩, hts (.instanceMethod yX3_agreeWith) (by decide +kernel), hts (.selects RX3 yX3_agreeWith yX3_agreeWith) (by decide +kernel)⟩ ⟨Pc0_blind, va_recv hT hP (q0 := 26) (ci := 3) rfl rfl, fun U hU hW => Pc0_at (Wd := (wX3 G (ado 8) fsightings ++ (wX0 G (ado 2) (mrow 1 (g29) ftrial_17)))) hE (hP.subm [26, 27, 28, 29, 30, 15, 16, 17, 18, 19, 20, 21, 22, 23, 24, 25] rfl) (hD.sub [26, 27, 28, 29, 30, 15, 16, 17, 18, 19, 20, 21, 22, 23, 24, 25] (by decide) rfl) hU hW⟩ rfl rfl hl.1 rfl (lv_room (Nat.le_of_ble_eq_true rfl)) dX6_kindsAsSeen_38 ⟨Nat.zero_le _, Nat.zero_le _⟩) hS hA hP hD (fun H locs hn38 hP hD hS => ?_)
      refine lv_if_eq (tgt := 50) hx hb dX6_kindsAsSeen_41 (by decide) (fun hc => ?_) (fun hc => ?_)
      · have hf := if_t hf hc
        refine lv_iinc (v := (x3 + nI 1)) (lv' := [(3, .int (x3 + nI 1)), (0, .ref (ad 0)), (1, .int x1), (2, .int x2)]) hx hb dX6_kindsAsSeen_50 hl (k := 3) rfl (ii_x 1 _) (by decide) rfl (fun ls hl => ?_)
        refine lv_goto (tgt := 4) hx hb dX6_kindsAsSeen_53 (by decide) ?_
        have hK9 := K_of hf hK
        have hK9 := hW4 _ hK9
        exact hK9 _ _ _ hP hD hS (lv_sub hl [1, 2, 3, 0] rfl)
      · have hf := if_f hf hc
        refine lv_iload_n hx hb dX6_kindsAsSeen_44 rfl (lv_at hl 2 rfl) ?_
        refine lv_iconst (v := (nI 1)) hx hb dX6_kindsAsSeen_45 (ic_1) ?_
        refine lv_iload_n hx hb dX6_kindsAsSeen_46 rfl (lv_at hl 3 rfl) ?_
        refine lv_ishl hx hb dX6_kindsAsSeen_47 ?_
        refine lv_ior hx hb dX6_kindsAsSeen_48 ?_
        refine lv_istore_n (lv' := [(2, .int (x2 ||| ((nI 1) <<< (x3 &&& 31)))), (0, .ref (ad 0)), (1, .int x1), (3, .int x3)]) hx hb dX6_kindsAsSeen_49 rfl hl (by decide) rfl (fun ls hl => ?_)
        refine lv_iinc (v := (x3 + nI 1)) (lv' := [(3, .int (x3 + nI 1)), (2, .int (x2 ||| ((nI 1) <<< (x3 &&& 31)))), (0, .ref (ad 0)), (1, .int x1)]) hx hb dX6_kindsAsSeen_50 hl (k := 3) rfl (ii_x 1 _) (by decide) rfl (fun ls hl => ?_)
        refine lv_goto (tgt := 4) hx hb dX6_kindsAsSeen_53 (by decide) ?_
        have hK9 := K_of hf hK
        have hK9 := hW4 _ hK9
        exact hK9 _ _ _ hP hD hS (lv_sub hl [2, 3, 1, 0] rfl)
  · try dsimp only at hf
    show ∀ (H : Heap) (locs : List Loc) (ls : Array Slot), va_P G.1 vwCl (wX6 G ad ado f ++ (wX0 G (ado 1) fnow ++ (wX0 G (ado 2) ftrial_4 ++ (wX3 G (ado 8) fsightings)))) H → va_D A (wX6 G ad ado f ++ (wX0 G (ado 1) fnow ++ (wX0 G (ado 2) ftrial_4 ++ (wX3 G (ado 8) fsightings)))) → va_S A s.heap H locs → lv_has ls 4 [(2, .int y2_4)] → W p l e ({ frames := 5, cells := 0, slots := 0, locals := 132 }) s m args below meth c H locs 0 0 Q (F0 m 56 ls [])
    intro H locs ls hP hD hS hl
    refine lv_iload_n hx hb dX6_kindsAsSeen_56 rfl (lv_at hl 0 rfl) ?_
    have hK9 := K0_of hf hK
    exact hRet y2_4 ftrial_4 _ _ _ _ hK9 dX6_kindsAsSeen_57 hP hD hS
noncomputable def p_X6_kinds (f : Mem) (fnow : Mem) (ftrial : Mem) (fsightings : Mem) (x1 : Int32) : Option (Int32 × Mem) :=
  Option.bind (p_X0_hasGoose fnow x1) <| fun r5 =>
  if r5 = 0 then
    (some ((-1 : Int32), ftrial))
  else
    (Option.bind (p_X6_kindsAsSeen f fnow ftrial fsightings x1) <| fun (r13, ftrial_13) =>
     some (r13, ftrial_13))
set_option maxHeartbeats 4000000 in
set_option maxRecDepth 100000 in
theorem c_X6_kinds (l : Launch) (G : Gt) (ad : Nat → Nat) (ado : Nat → Nat → Nat) (f : Mem) (fnow : Mem) (ftrial : Mem) (fsightings : Mem) (x1 : Int32) (r : Int32) (ftrialz : Mem) (hf : p_X6_kinds f fnow ftrial fsightings x1 = some (r, ftrialz)) (sz : Nat) : Met l yX6_kinds wsX6_kinds ({ frames := 6, cells := 0, slots := 0, locals := 155 }) (Pc0 G sz [.ref (ad 0), .int x1] (wX6 G ad ado f ++ (wX0 G (ado 1) fnow ++ (wX0 G (ado 2) ftrial ++ (wX3 G (ado 8) fsightings))))) (Qi0 G (va_A (wX6 G ad ado f ++ (wX0 G (ado 1) fnow ++ (wX0 G (ado 2) ftrial ++ (wX3 G (ado 8) fsightings)))) sz) r (wX6 G ad ado f ++ (wX0 G (ado 1) fnow ++ (wX0 G (ado 2) ftrialz ++ (wX3 G (ado 8) fsightings))))) 0 0 (va_A (wX6 G ad ado f ++ (wX0 G (ado 1) fnow ++ (wX0 G (ado 2) ftrial ++ (wX3 G (ado 8) fsightings)))) sz) := by
  refine metP (Qf := fun A => Qi0 G A r (wX6 G ad ado f ++ (wX0 G (ado 1) fnow ++ (wX0 G (ado 2) ftrialz ++ (wX3 G (ado 8) fsightings))))) cX6_kinds 2 (some .int) (by decide) rfl (Nat.le_of_ble_eq_true rfl) ?_
  intro p e s m below meth c A ls hC hr hlocks hin hE hA hsz hP hD hS hl
  generalize hargs : ([.ref (ad 0), .int x1] : List Value).toArray = args at hC ⊢
  obtain ⟨hx, hb, hml, hown, hts⟩ := id hC
  have hT : va_K G.1 vwCl (tyL G) s := hE.1
  have hRet : ∀ (r9 : Int32) (ftrial9 : Mem) (H : Heap) (locs : List Loc) (ls : Array Slot) (pc : Nat) (hK9 : (r9, ftrial9) = (r, ftrialz)) (hdg : decode cX6_kinds pc = .ok (.ireturn, 1)), va_P G.1 vwCl (wX6 G ad ado f ++ (wX0 G (ado 1) fnow ++ (wX0 G (ado 2) ftrial9 ++ (wX3 G (ado 8) fsightings)))) H → va_D A (wX6 G ad ado f ++ (wX0 G (ado 1) fnow ++ (wX0 G (ado 2) ftrial9 ++ (wX3 G (ado 8) fsightings)))) → va_S A s.heap H locs → W p l e ({ frames := 6, cells := 0, slots := 0, locals := 155 }) s m args below meth c H locs 0 0 (MQ below (Qi0 G A r (wX6 G ad ado f ++ (wX0 G (ado 1) fnow ++ (wX0 G (ado 2) ftrialz ++ (wX3 G (ado 8) fsightings))))) args s 0 0 A) (F0 m pc ls [.int r9]) := by
    intro r9 ftrial9 H locs ls pc hK9 hdg hP hD hS
    cases hK9
    exact W.iret hx hb hr (fun t ht hW => ⟨⟨r, (), rfl, rfl, by rw [ht]; exact hP, hD⟩, hS.F ht⟩) hS.2.2 hdg hlocks
  generalize MQ below (Qi0 G A r (wX6 G ad ado f ++ (wX0 G (ado 1) fnow ++ (wX0 G (ado 2) ftrialz ++ (wX3 G (ado 8) fsightings))))) args s 0 0 A = Q at hRet ⊢
  have lk12 := hts (.fieldLink RX6 12 "FeatherShares" "now" "LFeatherShares$Flock;") (by decide +kernel)
  have inX6 : ∀ w ∈ u_ws RX6 TX6 11, w ∈ wsX6_kinds := by decide +kernel
  have hl : lv_has ls 2 [(0, .ref (ad 0)), (1, .int x1)] := hl
  have hK0 : (r, ftrialz) = (r, ftrialz) := rfl
  obtain ⟨res, hres, hK⟩ : ∃ res, p_X6_kinds f fnow ftrial fsightings x1 = some res ∧ res = (r, ftrialz) := ⟨_, hf, rfl⟩
  clear hf
  have hf := hres
  clear hres
  unfold p_X6_kinds at hf
  refine lv_aload_n hx hb dX6_kinds_0 rfl (lv_at hl 0 rfl) ?_
  refine va_get (C := RX6) (T := TX6) (N := 11) (ci := 6) (v := .ref ((ado 1) 0)) hx hb hts inX6 hown hT hP 0 rfl rfl 0 (Nat.le_of_ble_eq_true rfl) lk12 (fun _ h => h) rfl dX6_kinds_1 ?_
  refine lv_iload_n hx hb dX6_kinds_4 rfl (lv_at hl 1 rfl) ?_
  obtain ⟨r5, hc5, hf⟩ := bd_e hf
  refine cl_z_ro (Wd := (wX6 G ad ado f ++ (wX0 G (ado 1) fnow ++ (wX0 G (ado 2) ftrial ++ (wX3 G (ado 8) fsightings))))) (Wc := (wX0 G (ado 1) fnow)) [4, 5, 6, 7, 8, 9, 10, 11, 12, 13, 14] rfl (va_runVN (As := [.int x1]) (rest := []) hC (c_X0_hasGoose l G (ado 1) fnow x1 r5 hc5 _) ⟨va_cnB 1 hts gX6_kinds_X0_hasGoose_n126 rfl rfl rfl (hE.2.2 (RX6, 126, yX0_hasGoose, "FeatherShares") (List.mem_of_getElem? (i := 10) rfl)) (hts (.initialized RX0) (by decide +kernel)) (by decide +kernel) ⟨Nat.le_of_ble_eq_true rfl, Nat.le_of_ble_eq_true rfl⟩, hts (.instanceMethod yX0_hasGoose) (by decide +kernel), hts (.selects RX0 yX0_hasGoose yX0_hasGoose) (by decide +kernel)⟩ ⟨Pc0_blind, va_recv hT hP (q0 := 4) (ci := 0) rfl rfl, fun U hU hW => Pc0_at (Wd := (wX0 G (ado 1) fnow)) hE (hP.subm [4, 5, 6, 7, 8, 9, 10, 11, 12, 13, 14] rfl) (hD.sub [4, 5, 6, 7, 8, 9, 10, 11, 12, 13, 14] (by decide) rfl) hU hW⟩ rfl rfl hl.1 rfl (lv_room (Nat.le_of_ble_eq_true rfl)) dX6_kinds_5 ⟨Nat.zero_le _, Nat.zero_le _⟩) hS hA hP hD (fun H locs hn5 hP hD hS => ?_)
  refine lv_if_eq (tgt := 19) hx hb dX6_kinds_8 (by decide) (fun hc => ?_) (fun hc => ?_)
  · have hf := if_t hf hc
    refine lv_iconst (v := (-1 : Int32)) hx hb dX6_kinds_19 (ic_m1) ?_
    have hK9 := K0_of hf hK
    exact hRet (-1 : Int32) ftrial _ _ _ _ hK9 dX6_kinds_20 hP hD hS
  · have hf := if_f hf hc
    refine lv_aload_n hx hb dX6_kinds_11 rfl (lv_at hl 0 rfl) ?_
    refine lv_iload_n hx hb dX6_kinds_12 rfl (lv_at hl 1 rfl) ?_
    obtain ⟨⟨r13, ftrial_13⟩, hc13, hf⟩ := bd_e hf
    try dsimp only at hf
    refine cl_i_same (Wd := (wX6 G ad ado f ++ (wX0 G (ado 1) fnow ++ (wX0 G (ado 2) ftrial ++ (wX3 G (ado 8) fsightings))))) (W' := (wX6 G ad ado f ++ (wX0 G (ado 1) fnow ++ (wX0 G (ado 2) ftrial_13 ++ (wX3 G (ado 8) fsightings))))) (va_runV (As := [.int x1]) (rest := []) hC (c_X6_kindsAsSeen l G ad ado f fnow ftrial fsightings x1 r13 ftrial_13 hc13 _) (cwV 1 hts gX6_kinds_X6_kindsAsSeen rfl rfl rfl (by decide +kernel) ⟨Nat.le_of_ble_eq_true rfl, Nat.le_of_ble_eq_true rfl⟩) ⟨Pc0_blind, va_recv hT hP (q0 := 0) (ci := 6) rfl rfl, fun U hU hW => Pc0_at hE hP hD hU hW⟩ rfl rfl hl.1 rfl (lv_room (Nat.le_of_ble_eq_true rfl)) dX6_kinds_13 ⟨Nat.zero_le _, Nat.zero_le _⟩) hS hA hD (fun H locs hP hD hS => ?_)
    refine lv_goto (tgt := 20) hx hb dX6_kinds_16 (by decide) ?_
    have hK9 := K0_of hf hK
    exact hRet r13 ftrial_13 _ _ _ _ hK9 dX6_kinds_20 hP hD hS
noncomputable def p_X6_skins_L17 (f : Mem) (fnow : Mem) (fsightings : Mem) (x1 : Int32) (z : Int32 × Int32 × Mem) : Option ((Int32 × Int32 × Mem) ⊕ (Int32 × Mem)) :=
  match z with
  | (x2, x3, ftrial_) =>
    if (nI 5) ≤ x3 then
      (some (Sum.inr (x2, ftrial_)))
    else
      (Option.bind (p_X0_copyFrom ftrial_ fnow) <| fun ftrial_30 =>
       gd (inb x1 3) <|
       bnd (upd (ftrial_30 2) x1.toNatClampNeg x3) <| fun g42 =>
       Option.bind (p_X3_agreeWith fsightings (mrow 2 (g42) ftrial_30)) <| fun (r51, ftrial_51) =>
       if r51 = 0 then
         (some (Sum.inl (x2, (x3 + nI 1), ftrial_51)))
       else
         (some (Sum.inl ((x2 ||| ((nI 1) <<< (x3 &&& 31))), (x3 + nI 1), ftrial_51))))
noncomputable def p_X6_skins (f : Mem) (fnow : Mem) (ftrial : Mem) (fsightings : Mem) (x1 : Int32) : Option (Int32 × Mem) :=
  Option.bind (p_X0_hasGoose fnow x1) <| fun r5 =>
  if r5 = 0 then
    (some ((-1 : Int32), ftrial))
  else
    (Option.bind (lp (p_X6_skins_L17 f fnow fsightings x1) ((nI 0), (nI 0), ftrial)) <| fun (y2_17, ftrial_17) =>
     some (y2_17, ftrial_17))
set_option maxHeartbeats 4000000 in
set_option maxRecDepth 100000 in
theorem c_X6_skins (l : Launch) (G : Gt) (ad : Nat → Nat) (ado : Nat → Nat → Nat) (f : Mem) (fnow : Mem) (ftrial : Mem) (fsightings : Mem) (x1 : Int32) (r : Int32) (ftrialz : Mem) (hf : p_X6_skins f fnow ftrial fsightings x1 = some (r, ftrialz)) (sz : Nat) : Met l yX6_skins wsX6_skins ({ frames := 5, cells := 0, slots := 0, locals := 132 }) (Pc0 G sz [.ref (ad 0), .int x1] (wX6 G ad ado f ++ (wX0 G (ado 1) fnow ++ (wX0 G (ado 2) ftrial ++ (wX3 G (ado 8) fsightings))))) (Qi0 G (va_A (wX6 G ad ado f ++ (wX0 G (ado 1) fnow ++ (wX0 G (ado 2) ftrial ++ (wX3 G (ado 8) fsightings)))) sz) r (wX6 G ad ado f ++ (wX0 G (ado 1) fnow ++ (wX0 G (ado 2) ftrialz ++ (wX3 G (ado 8) fsightings))))) 0 0 (va_A (wX6 G ad ado f ++ (wX0 G (ado 1) fnow ++ (wX0 G (ado 2) ftrial ++ (wX3 G (ado 8) fsightings)))) sz) := by
  refine metP (Qf := fun A => Qi0 G A r (wX6 G ad ado f ++ (wX0 G (ado 1) fnow ++ (wX0 G (ado 2) ftrialz ++ (wX3 G (ado 8) fsightings))))) cX6_skins 4 (some .int) (by decide) rfl (Nat.le_of_ble_eq_true rfl) ?_
  intro p e s m below meth c A ls hC hr hlocks hin hE hA hsz hP hD hS hl
  generalize hargs : ([.ref (ad 0), .int x1] : List Value).toArray = args at hC ⊢
  obtain ⟨hx, hb, hml, hown, hts⟩ := id hC
  have hT : va_K G.1 vwCl (tyL G) s := hE.1
  have hRet : ∀ (r9 : Int32) (ftrial9 : Mem) (H : Heap) (locs : List Loc) (ls : Array Slot) (pc : Nat) (hK9 : (r9, ftrial9) = (r, ftrialz)) (hdg : decode cX6_skins pc = .ok (.ireturn, 1)), va_P G.1 vwCl (wX6 G ad ado f ++ (wX0 G (ado 1) fnow ++ (wX0 G (ado 2) ftrial9 ++ (wX3 G (ado 8) fsightings)))) H → va_D A (wX6 G ad ado f ++ (wX0 G (ado 1) fnow ++ (wX0 G (ado 2) ftrial9 ++ (wX3 G (ado 8) fsightings)))) → va_S A s.heap H locs → W p l e ({ frames := 5, cells := 0, slots := 0, locals := 132 }) s m args below meth c H locs 0 0 (MQ below (Qi0 G A r (wX6 G ad ado f ++ (wX0 G (ado 1) fnow ++ (wX0 G (ado 2) ftrialz ++ (wX3 G (ado 8) fsightings))))) args s 0 0 A) (F0 m pc ls [.int r9]) := by
    intro r9 ftrial9 H locs ls pc hK9 hdg hP hD hS
    cases hK9
    exact W.iret hx hb hr (fun t ht hW => ⟨⟨r, (), rfl, rfl, by rw [ht]; exact hP, hD⟩, hS.F ht⟩) hS.2.2 hdg hlocks
  generalize MQ below (Qi0 G A r (wX6 G ad ado f ++ (wX0 G (ado 1) fnow ++ (wX0 G (ado 2) ftrialz ++ (wX3 G (ado 8) fsightings))))) args s 0 0 A = Q at hRet ⊢
  have lk12 := hts (.fieldLink RX6 12 "FeatherShares" "now" "LFeatherShares$Flock;") (by decide +kernel)
  have inX6 : ∀ w ∈ u_ws RX6 TX6 11, w ∈ wsX6_skins := by decide +kernel
  have lk16 := hts (.fieldLink RX6 16 "FeatherShares" "trial" "LFeatherShares$Flock;") (by decide +kernel)
  have lk132 := va_Nw.use (A := args) rfl (hE.2.1 (RX6, 132, "FeatherShares$Flock", "skin", "[I", "FeatherShares") (List.mem_of_getElem? (i := 12) rfl))
  have inX0 : ∀ w ∈ u_ws RX0 TX0 13, w ∈ wsX6_skins := by decide +kernel
  have lk44 := hts (.fieldLink RX6 44 "FeatherShares" "sightings" "LFeatherShares$Sightings;") (by decide +kernel)
  have hl : lv_has ls 4 [(0, .ref (ad 0)), (1, .int x1)] := hl
  have hK0 : (r, ftrialz) = (r, ftrialz) := rfl
  obtain ⟨res, hres, hK⟩ : ∃ res, p_X6_skins f fnow ftrial fsightings x1 = some res ∧ res = (r, ftrialz) := ⟨_, hf, rfl⟩
  clear hf
  have hf := hres
  clear hres
  unfold p_X6_skins at hf
  refine lv_aload_n hx hb dX6_skins_0 rfl (lv_at hl 0 rfl) ?_
  refine va_get (C := RX6) (T := TX6) (N := 11) (ci := 6) (v := .ref ((ado 1) 0)) hx hb hts inX6 hown hT hP 0 rfl rfl 0 (Nat.le_of_ble_eq_true rfl) lk12 (fun _ h => h) rfl dX6_skins_1 ?_
  refine lv_iload_n hx hb dX6_skins_4 rfl (lv_at hl 1 rfl) ?_
  obtain ⟨r5, hc5, hf⟩ := bd_e hf
  refine cl_z_ro (Wd := (wX6 G ad ado f ++ (wX0 G (ado 1) fnow ++ (wX0 G (ado 2) ftrial ++ (wX3 G (ado 8) fsightings))))) (Wc := (wX0 G (ado 1) fnow)) [4, 5, 6, 7, 8, 9, 10, 11, 12, 13, 14] rfl (va_runVN (As := [.int x1]) (rest := []) hC (c_X0_hasGoose l G (ado 1) fnow x1 r5 hc5 _) ⟨va_cnB 1 hts gX6_skins_X0_hasGoose_n126 rfl rfl rfl (hE.2.2 (RX6, 126, yX0_hasGoose, "FeatherShares") (List.mem_of_getElem? (i := 10) rfl)) (hts (.initialized RX0) (by decide +kernel)) (by decide +kernel) ⟨Nat.le_of_ble_eq_true rfl, Nat.le_of_ble_eq_true rfl⟩, hts (.instanceMethod yX0_hasGoose) (by decide +kernel), hts (.selects RX0 yX0_hasGoose yX0_hasGoose) (by decide +kernel)⟩ ⟨Pc0_blind, va_recv hT hP (q0 := 4) (ci := 0) rfl rfl, fun U hU hW => Pc0_at (Wd := (wX0 G (ado 1) fnow)) hE (hP.subm [4, 5, 6, 7, 8, 9, 10, 11, 12, 13, 14] rfl) (hD.sub [4, 5, 6, 7, 8, 9, 10, 11, 12, 13, 14] (by decide) rfl) hU hW⟩ rfl rfl hl.1 rfl (lv_room (Nat.le_of_ble_eq_true rfl)) dX6_skins_5 ⟨Nat.zero_le _, Nat.zero_le _⟩) hS hA hP hD (fun H locs hn5 hP hD hS => ?_)
  refine lv_if_ne (tgt := 13) hx hb dX6_skins_8 (by decide) (fun hc => ?_) (fun hc => ?_)
  · have hf := if_f hf hc
    refine lv_iconst (v := (nI 0)) hx hb dX6_skins_13 (ic_0) ?_
    refine lv_istore_n (lv' := [(2, .int (nI 0)), (0, .ref (ad 0)), (1, .int x1)]) hx hb dX6_skins_14 rfl hl (by decide) rfl (fun ls hl => ?_)
    refine lv_iconst (v := (nI 0)) hx hb dX6_skins_15 (ic_0) ?_
    refine lv_istore_n (lv' := [(3, .int (nI 0)), (2, .int (nI 0)), (0, .ref (ad 0)), (1, .int x1)]) hx hb dX6_skins_16 rfl hl (by decide) rfl (fun ls hl => ?_)
    obtain ⟨⟨y2_17, ftrial_17⟩, hlp, hf⟩ := bd_e hf
    refine lp_W1 (p_X6_skins_L17 f fnow fsightings x1) (fun z => match z with | (x2, x3, ftrial_) => ∀ (H : Heap) (locs : List Loc) (ls : Array Slot), va_P G.1 vwCl (wX6 G ad ado f ++ (wX0 G (ado 1) fnow ++ (wX0 G (ado 2) ftrial_ ++ (wX3 G (ado 8) fsightings)))) H → va_D A (wX6 G ad ado f ++ (wX0 G (ado 1) fnow ++ (wX0 G (ado 2) ftrial_ ++ (wX3 G (ado 8) fsightings)))) → va_S A s.heap H locs → lv_has ls 4 [(0, .ref (ad 0)), (1, .int x1), (2, .int x2), (3, .int x3)] → W p l e ({ frames := 5, cells := 0, slots := 0, locals := 132 }) s m args below meth c H locs 0 0 Q (F0 m 17 ls [])) (fun z => match z with | (y2_17, ftrial_17) => ∀ (H : Heap) (locs : List Loc) (ls : Array Slot), va_P G.1 vwCl (wX6 G ad ado f ++ (wX0 G (ado 1) fnow ++ (wX0 G (ado 2) ftrial_17 ++ (wX3 G (ado 8) fsightings)))) H → va_D A (wX6 G ad ado f ++ (wX0 G (ado 1) fnow ++ (wX0 G (ado 2) ftrial_17 ++ (wX3 G (ado 8) fsightings)))) → va_S A s.heap H locs → lv_has ls 4 [(2, .int y2_17)] → W p l e ({ frames := 5, cells := 0, slots := 0, locals := 132 }) s m args below meth c H locs 0 0 Q (F0 m 69 ls [])) ?_ hlp ?_ _ _ _ hP hD hS (lv_sub hl [2, 3, 1, 0] rfl)
    · clear hlp hf hK hP hD hS hl
      intro K17 hW17 hX17 
      rintro ⟨x2, x3, ftrial_⟩ res hf hK H locs ls hP hD hS hl
      unfold p_X6_skins_L17 at hf
      dsimp only at hf
      refine lv_iload_n hx hb dX6_skins_17 rfl (lv_at hl 3 rfl) ?_
      refine lv_iconst (v := (nI 5)) hx hb dX6_skins_18 (ic_5) ?_
      refine lv_icmp_ge (tgt := 69) hx hb dX6_skins_19 (by decide) (fun hc => ?_) (fun hc => ?_)
      · have hf := if_t hf hc
        have hK9 := K_of hf hK
        have hK9 := hX17 _ hK9
        exact hK9 _ _ _ hP hD hS (lv_sub hl [2] rfl)
      · have hf := if_f hf hc
        refine lv_aload_n hx hb dX6_skins_22 rfl (lv_at hl 0 rfl) ?_
        refine va_get (C := RX6) (T := TX6) (N := 11) (ci := 6) (v := .ref ((ado 2) 0)) hx hb hts inX6 hown hT hP 0 rfl rfl 1 (Nat.le_of_ble_eq_true rfl) lk16 (fun _ h => h) rfl dX6_skins_23 ?_
        refine lv_aload_n hx hb dX6_skins_26 rfl (lv_at hl 0 rfl) ?_
        refine va_get (C := RX6) (T := TX6) (N := 11) (ci := 6) (v := .ref ((ado 1) 0)) hx hb hts inX6 hown hT hP 0 rfl rfl 0 (Nat.le_of_ble_eq_true rfl) lk12 (fun _ h => h) rfl dX6_skins_27 ?_
        obtain ⟨ftrial_30, hc30, hf⟩ := bd_e hf
        refine cl_v_up (Wd := (wX6 G ad ado f ++ (wX0 G (ado 1) fnow ++ (wX0 G (ado 2) ftrial_ ++ (wX3 G (ado 8) fsightings))))) (Wc := (wX0 G (ado 2) ftrial_ ++ (wX0 G (ado 1) fnow))) (W' := (wX0 G (ado 2) ftrial_30 ++ (wX0 G (ado 1) fnow))) (W2 := (wX6 G ad ado f ++ (wX0 G (ado 1) fnow ++ (wX0 G (ado 2) ftrial_30 ++ (wX3 G (ado 8) fsightings))))) (Wr := (wX6 G ad ado f ++ (wX3 G (ado 8) fsightings))) [15, 16, 17, 18, 19, 20, 21, 22, 23, 24, 25, 4, 5, 6, 7, 8, 9, 10, 11, 12, 13, 14] [0, 1, 2, 3, 26, 27, 28, 29, 30] rfl rfl rfl rfl rfl rfl (va_runVN (As := [.ref ((ado 1) 0)]) (rest := []) hC (c_X0_copyFrom l G (ado 2) (ado 1) ftrial_ fnow ftrial_30 hc30 _) ⟨va_cnB 1 hts gX6_skins_X0_copyFrom_n93 rfl rfl rfl (hE.2.2 (RX6, 93, yX0_copyFrom, "FeatherShares") (List.mem_of_getElem? (i := 8) rfl)) (hts (.initialized RX0) (by decide +kernel)) (by decide +kernel) ⟨Nat.le_of_ble_eq_true rfl, Nat.le_of_ble_eq_true rfl⟩, hts (.instanceMethod yX0_copyFrom) (by decide +kernel), hts (.selects RX0 yX0_copyFrom yX0_copyFrom) (by decide +kernel)⟩ ⟨Pc0_blind, va_recv hT hP (q0 := 15) (ci := 0) rfl rfl, fun U hU hW => Pc0_at (Wd := (wX0 G (ado 2) ftrial_ ++ (wX0 G (ado 1) fnow))) hE (hP.subm [15, 16, 17, 18, 19, 20, 21, 22, 23, 24, 25, 4, 5, 6, 7, 8, 9, 10, 11, 12, 13, 14] rfl) (hD.sub [15, 16, 17, 18, 19, 20, 21, 22, 23, 24, 25, 4, 5, 6, 7, 8, 9, 10, 11, 12, 13, 14] (by decide) rfl) hU hW⟩ rfl rfl hl.1 rfl (lv_room (Nat.le_of_ble_eq_true rfl)) dX6_skins_30 ⟨Nat.zero_le _, Nat.zero_le _⟩) hS hA hP hD (fun H locs hP hD hS => ?_)
        refine lv_aload_n hx hb dX6_skins_33 rfl (lv_at hl 0 rfl) ?_
        refine va_get (C := RX6) (T := TX6) (N := 11) (ci := 6) (v := .ref ((ado 2) 0)) hx hb hts inX6 hown hT hP 0 rfl rfl 1 (Nat.le_of_ble_eq_true rfl) lk16 (fun _ h => h) rfl dX6_skins_34 ?_
        refine va_getN (C := RX0) (T := TX0) (N := 13) (ci := 0) (v := .ref ((ado 2) 2)) hx hb hts inX0 hown hT hP 15 rfl rfl 4 (Nat.le_of_ble_eq_true rfl) lk132 (fun _ h => h) rfl dX6_skins_37 ?_
        refine lv_iload_n hx hb dX6_skins_40 rfl (lv_at hl 1 rfl) ?_
        refine lv_iload_n hx hb dX6_skins_41 rfl (lv_at hl 3 rfl) ?_
        obtain ⟨hg, hf⟩ := gd_e hf
        obtain ⟨g42, eg42, hf⟩ := bnd_e hf
        refine va_iast (f := ftrial_30 2) hx hb hT hP hD hS 17 0 rfl rfl (inb_e hg) dX6_skins_42 (fun H locs hP hD hS => ?_)
        rw [← eg42] at hP hD
        have hP : va_P G.1 vwCl (wX6 G ad ado f ++ (wX0 G (ado 1) fnow ++ (wX0 G (ado 2) (mrow 2 (g42) ftrial_30) ++ (wX3 G (ado 8) fsightings)))) H := hP
        have hD : va_D A (wX6 G ad ado f ++ (wX0 G (ado 1) fnow ++ (wX0 G (ado 2) (mrow 2 (g42) ftrial_30) ++ (wX3 G (ado 8) fsightings)))) := hD
        refine lv_aload_n hx hb dX6_skins_43 rfl (lv_at hl 0 rfl) ?_
        refine va_get (C := RX6) (T := TX6) (N := 11) (ci := 6) (v := .ref ((ado 8) 0)) hx hb hts inX6 hown hT hP 0 rfl rfl 6 (Nat.le_of_ble_eq_true rfl) lk44 (fun _ h => h) rfl dX6_skins_44 ?_
        refine lv_aload_n hx hb dX6_skins_47 rfl (lv_at hl 0 rfl) ?_
        refine va_get (C := RX6) (T := TX6) (N := 11) (ci := 6) (v := .ref ((ado 2) 0)) hx hb hts inX6 hown hT hP 0 rfl rfl 1 (Nat.le_of_ble_eq_true rfl) lk16 (fun _ h => h) rfl dX6_skins_48 ?_
        obtain ⟨⟨r51, ftrial_51⟩, hc51, hf⟩ := bd_e hf
        try dsimp only at hf
        refine cl_z_up (Wd := (wX6 G ad ado f ++ (wX0 G (ado 1) fnow ++ (wX0 G (ado 2) (mrow 2 (g42) ftrial_30) ++ (wX3 G (ado 8) fsightings))))) (Wc := (wX3 G (ado 8) fsightings ++ (wX0 G (ado 2) (mrow 2 (g42) ftrial_30)))) (W' := (wX3 G (ado 8) fsightings ++ (wX0 G (ado 2) ftrial_51))) (W2 := (wX6 G ad ado f ++ (wX0 G (ado 1) fnow ++ (wX0 G (ado 2) ftrial_51 ++ (wX3 G (ado 8) fsightings))))) (Wr := (wX6 G ad ado f ++ (wX0 G (ado 1) fnow))) [26, 27, 28, 29, 30, 15, 16, 17, 18, 19, 20, 21, 22, 23, 24, 25] [0, 1, 2, 3, 4, 5, 6, 7, 8, 9, 10, 11, 12, 13, 14] rfl rfl rfl rfl rfl rfl (va_runVN (As := [.ref ((ado 2) 0)]) (rest := []) hC (c_X3_agreeWith l G (ado 8) (ado 2) fsightings (mrow 2 (g42) ftrial_30) r51 ftrial_51 hc51 _) ⟨va_cnB 1 hts gX6_skins_X3_agreeWith_n270 rfl rfl rfl (hE.2.2 (RX6, 270, yX3_agreeWith, "FeatherShares") (List.mem_of_getElem? (i := 31) rfl)) (hts (.initialized RX3) (by decide +kernel)) (by decide +kernel) ⟨Nat.le_of_ble_eq_true rfl, Nat.le_of_ble_eq_true rfl⟩, hts (.instanceMethod yX3_agreeWith) (by decide +kernel), hts (.selects RX3 yX3_agreeWith yX3_agreeWith) (by decide +kernel)⟩ ⟨Pc0_blind, va_recv hT hP (q0 := 26) (ci := 3) rfl rfl, fun U hU hW => Pc0_at (Wd := (wX3 G (ado 8) fsightings ++ (wX0 G (ado 2) (mrow 2 (g42) ftrial_30)))) hE (hP.subm [26, 27, 28, 29, 30, 15, 16, 17, 18, 19, 20, 21, 22, 23, 24, 25] rfl) (hD.sub [26, 27, 28, 29, 30, 15, 16, 17, 18, 19, 20, 21, 22, 23, 24, 25] (by decide) rfl) hU hW⟩ rfl rfl hl.1 rfl (lv_room (Nat.le_of_ble_eq_true rfl)) dX6_skins_51 ⟨Nat.zero_le _, Nat.zero_le _⟩) hS hA hP hD (fun H locs hn51 hP hD hS => ?_)
        refine lv_if_eq (tgt := 63) hx hb dX6_skins_54 (by decide) (fun hc => ?_) (fun hc => ?_)
        · have hf := if_t hf hc
          refine lv_iinc (v := (x3 + nI 1)) (lv' := [(3, .int (x3 + nI 1)), (0, .ref (ad 0)), (1, .int x1), (2, .int x2)]) hx hb dX6_skins_63 hl (k := 3) rfl (ii_x 1 _) (by decide) rfl (fun ls hl => ?_)
          refine lv_goto (tgt := 17) hx hb dX6_skins_66 (by decide) ?_
          have hK9 := K_of hf hK
          have hK9 := hW17 _ hK9
          exact hK9 _ _ _ hP hD hS (lv_sub hl [1, 2, 3, 0] rfl)
        · have hf := if_f hf hc
          refine lv_iload_n hx hb dX6_skins_57 rfl (lv_at hl 2 rfl) ?_
          refine lv_iconst (v := (nI 1)) hx hb dX6_skins_58 (ic_1) ?_
          refine lv_iload_n hx hb dX6_skins_59 rfl (lv_at hl 3 rfl) ?_
          refine lv_ishl hx hb dX6_skins_60 ?_
          refine lv_ior hx hb dX6_skins_61 ?_
          refine lv_istore_n (lv' := [(2, .int (x2 ||| ((nI 1) <<< (x3 &&& 31)))), (0, .ref (ad 0)), (1, .int x1), (3, .int x3)]) hx hb dX6_skins_62 rfl hl (by decide) rfl (fun ls hl => ?_)
          refine lv_iinc (v := (x3 + nI 1)) (lv' := [(3, .int (x3 + nI 1)), (2, .int (x2 ||| ((nI 1) <<< (x3 &&& 31)))), (0, .ref (ad 0)), (1, .int x1)]) hx hb dX6_skins_63 hl (k := 3) rfl (ii_x 1 _) (by decide) rfl (fun ls hl => ?_)
          refine lv_goto (tgt := 17) hx hb dX6_skins_66 (by decide) ?_
          have hK9 := K_of hf hK
          have hK9 := hW17 _ hK9
          exact hK9 _ _ _ hP hD hS (lv_sub hl [2, 3, 1, 0] rfl)
    · try dsimp only at hf
      show ∀ (H : Heap) (locs : List Loc) (ls : Array Slot), va_P G.1 vwCl (wX6 G ad ado f ++ (wX0 G (ado 1) fnow ++ (wX0 G (ado 2) ftrial_17 ++ (wX3 G (ado 8) fsightings)))) H → va_D A (wX6 G ad ado f ++ (wX0 G (ado 1) fnow ++ (wX0 G (ado 2) ftrial_17 ++ (wX3 G (ado 8) fsightings)))) → va_S A s.heap H locs → lv_has ls 4 [(2, .int y2_17)] → W p l e ({ frames := 5, cells := 0, slots := 0, locals := 132 }) s m args below meth c H locs 0 0 Q (F0 m 69 ls [])
      intro H locs ls hP hD hS hl
      refine lv_iload_n hx hb dX6_skins_69 rfl (lv_at hl 0 rfl) ?_
      have hK9 := K0_of hf hK
      exact hRet y2_17 ftrial_17 _ _ _ _ hK9 dX6_skins_70 hP hD hS
  · have hf := if_t hf hc
    refine lv_iconst (v := (-1 : Int32)) hx hb dX6_skins_11 (ic_m1) ?_
    have hK9 := K0_of hf hK
    exact hRet (-1 : Int32) ftrial _ _ _ _ hK9 dX6_skins_12 hP hD hS
noncomputable def p_X6_placeByKind (x0 : Int32) (x1 : Int32) (x2 : Int32) : Option (Int32) :=
  some ((((x0 * (nI 21)) + x1) * (nI 5)) + x2)
set_option maxHeartbeats 4000000 in
set_option maxRecDepth 100000 in
theorem c_X6_placeByKind (l : Launch) (G : Gt)  (x0 : Int32) (x1 : Int32) (x2 : Int32) (r : Int32) (hf : p_X6_placeByKind x0 x1 x2 = some r) (sz : Nat) : Met l yX6_placeByKind wsX6_placeByKind ({ frames := 1, cells := 0, slots := 0, locals := 12 }) (Pc0 G sz [.int x0, .int x1, .int x2] ([] : va_W)) (Qi0 G (va_A ([] : va_W) sz) r ([] : va_W)) 0 0 (va_A ([] : va_W) sz) := by
  refine metP (Qf := fun A => Qi0 G A r ([] : va_W)) cX6_placeByKind 3 (some .int) (by decide) rfl (Nat.le_of_ble_eq_true rfl) ?_
  intro p e s m below meth c A ls hC hr hlocks hin hE hA hsz hP hD hS hl
  generalize hargs : ([.int x0, .int x1, .int x2] : List Value).toArray = args at hC ⊢
  obtain ⟨hx, hb, hml, hown, hts⟩ := id hC
  have hT : va_K G.1 vwCl (tyL G) s := hE.1
  have hRet : ∀ (r9 : Int32) (H : Heap) (locs : List Loc) (ls : Array Slot) (pc : Nat) (hK9 : r9 = r) (hdg : decode cX6_placeByKind pc = .ok (.ireturn, 1)), va_P G.1 vwCl ([] : va_W) H → va_D A ([] : va_W) → va_S A s.heap H locs → W p l e ({ frames := 1, cells := 0, slots := 0, locals := 12 }) s m args below meth c H locs 0 0 (MQ below (Qi0 G A r ([] : va_W)) args s 0 0 A) (F0 m pc ls [.int r9]) := by
    intro r9 H locs ls pc hK9 hdg hP hD hS
    cases hK9
    exact W.iret hx hb hr (fun t ht hW => ⟨⟨r, (), rfl, rfl, by rw [ht]; exact hP, hD⟩, hS.F ht⟩) hS.2.2 hdg hlocks
  generalize MQ below (Qi0 G A r ([] : va_W)) args s 0 0 A = Q at hRet ⊢
  have hl : lv_has ls 3 [(0, .int x0), (1, .int x1), (2, .int x2)] := hl
  have hK0 : r = r := rfl
  obtain ⟨res, hres, hK⟩ : ∃ res, p_X6_placeByKind x0 x1 x2 = some res ∧ res = r := ⟨_, hf, rfl⟩
  clear hf
  have hf := hres
  clear hres
  unfold p_X6_placeByKind at hf
  refine lv_iload_n hx hb dX6_placeByKind_0 rfl (lv_at hl 0 rfl) ?_
  refine lv_bipush (v := (nI 21)) hx hb dX6_placeByKind_1 (bi_21) ?_
  refine lv_imul hx hb dX6_placeByKind_3 ?_
  refine lv_iload_n hx hb dX6_placeByKind_4 rfl (lv_at hl 1 rfl) ?_
  refine lv_iadd hx hb dX6_placeByKind_5 ?_
  refine lv_iconst (v := (nI 5)) hx hb dX6_placeByKind_6 (ic_5) ?_
  refine lv_imul hx hb dX6_placeByKind_7 ?_
  refine lv_iload_n hx hb dX6_placeByKind_8 rfl (lv_at hl 2 rfl) ?_
  refine lv_iadd hx hb dX6_placeByKind_9 ?_
  have hK9 := K0_of hf hK
  exact hRet ((((x0 * (nI 21)) + x1) * (nI 5)) + x2) _ _ _ _ hK9 dX6_placeByKind_10 hP hD hS
noncomputable def p_X6_foretellByKind_L39 (fnow : Mem) (ftrial : Mem) (x1 : Int32) (x2 : Int32) (x3 : Int32) (z : Int32 × Mem) : Option ((Int32 × Mem) ⊕ Mem) :=
  match z with
  | (x4, f_) =>
    if (nI 5) ≤ x4 then
      (some (Sum.inr f_))
    else
      (Option.bind (p_X6_placeByKind x2 x3 x4) <| fun r53 =>
       Option.bind (p_X0_held ftrial x1 x4) <| fun r63 =>
       gd (inb r53 420) <|
       bnd (upd (f_ 2) r53.toNatClampNeg r63) <| fun g66 =>
       some (Sum.inl ((x4 + nI 1), (mrow 2 (g66) f_))))
noncomputable def p_X6_foretellByKind_L30 (fnow : Mem) (x1 : Int32) (x2 : Int32) (z : Int32 × Mem × Mem) : Option ((Int32 × Mem × Mem) ⊕ (Mem × Mem)) :=
  match z with
  | (x3, f_, ftrial_) =>
    if (nI 20) < x3 then
      (some (Sum.inr (f_, ftrial_)))
    else
      (Option.bind (lp (p_X6_foretellByKind_L39 fnow ftrial_ x1 x2 x3) ((nI 0), f_)) <| fun f_39 =>
       Option.bind (p_X0_passWeek ftrial_) <| fun (r77, ftrial_77) =>
       some (Sum.inl ((x3 + nI 1), f_39, ftrial_77)))
noncomputable def p_X6_foretellByKind_L2 (fnow : Mem) (x1 : Int32) (z : Int32 × Mem × Mem) : Option ((Int32 × Mem × Mem) ⊕ (Mem × Mem)) :=
  match z with
  | (x2, f_, ftrial_) =>
    if (nI 4) ≤ x2 then
      (some (Sum.inr (f_, ftrial_)))
    else
      (Option.bind (p_X0_copyFrom ftrial_ fnow) <| fun ftrial_15 =>
       gd (inb x1 3) <|
       bnd (upd (ftrial_15 1) x1.toNatClampNeg x2) <| fun g27 =>
       Option.bind (lp (p_X6_foretellByKind_L30 fnow x1 x2) ((nI 0), f_, (mrow 1 (g27) ftrial_15))) <| fun (f_30, ftrial_30) =>
       some (Sum.inl ((x2 + nI 1), f_30, ftrial_30)))
noncomputable def p_X6_foretellByKind (f : Mem) (fnow : Mem) (ftrial : Mem) (x1 : Int32) : Option (Mem × Mem) :=
  Option.bind (lp (p_X6_foretellByKind_L2 fnow x1) ((nI 0), f, ftrial)) <| fun (f_2, ftrial_2) =>
  some (f_2, ftrial_2)
set_option maxHeartbeats 4000000 in
set_option maxRecDepth 100000 in
theorem c_X6_foretellByKind (l : Launch) (G : Gt) (ad : Nat → Nat) (ado : Nat → Nat → Nat) (f : Mem) (fnow : Mem) (ftrial : Mem) (x1 : Int32) (fz : Mem) (ftrialz : Mem) (hf : p_X6_foretellByKind f fnow ftrial x1 = some (fz, ftrialz)) (sz : Nat) : Met l yX6_foretellByKind wsX6_foretellByKind ({ frames := 4, cells := 0, slots := 0, locals := 110 }) (Pc0 G sz [.ref (ad 0), .int x1] (wX6 G ad ado f ++ (wX0 G (ado 1) fnow ++ (wX0 G (ado 2) ftrial)))) (Qv0 G (va_A (wX6 G ad ado f ++ (wX0 G (ado 1) fnow ++ (wX0 G (ado 2) ftrial))) sz) (wX6 G ad ado fz ++ (wX0 G (ado 1) fnow ++ (wX0 G (ado 2) ftrialz)))) 0 0 (va_A (wX6 G ad ado f ++ (wX0 G (ado 1) fnow ++ (wX0 G (ado 2) ftrial))) sz) := by
  refine metP (Qf := fun A => Qv0 G A (wX6 G ad ado fz ++ (wX0 G (ado 1) fnow ++ (wX0 G (ado 2) ftrialz)))) cX6_foretellByKind 5 (none) (by decide) rfl (Nat.le_of_ble_eq_true rfl) ?_
  intro p e s m below meth c A ls hC hr hlocks hin hE hA hsz hP hD hS hl
  generalize hargs : ([.ref (ad 0), .int x1] : List Value).toArray = args at hC ⊢
  obtain ⟨hx, hb, hml, hown, hts⟩ := id hC
  have hT : va_K G.1 vwCl (tyL G) s := hE.1
  have hRet : ∀ (f9 : Mem) (ftrial9 : Mem) (H : Heap) (locs : List Loc) (ls : Array Slot) (pc : Nat) (hK9 : (f9, ftrial9) = (fz, ftrialz)) (hdg : decode cX6_foretellByKind pc = .ok (.return_, 1)), va_P G.1 vwCl (wX6 G ad ado f9 ++ (wX0 G (ado 1) fnow ++ (wX0 G (ado 2) ftrial9))) H → va_D A (wX6 G ad ado f9 ++ (wX0 G (ado 1) fnow ++ (wX0 G (ado 2) ftrial9))) → va_S A s.heap H locs → W p l e ({ frames := 4, cells := 0, slots := 0, locals := 110 }) s m args below meth c H locs 0 0 (MQ below (Qv0 G A (wX6 G ad ado fz ++ (wX0 G (ado 1) fnow ++ (wX0 G (ado 2) ftrialz)))) args s 0 0 A) (F0 m pc ls []) := by
    intro f9 ftrial9 H locs ls pc hK9 hdg hP hD hS
    cases hK9
    exact W.vret hx hb hr (fun t ht hW => ⟨⟨(), rfl, trivial, by rw [ht]; exact hP, hD⟩, hS.F ht⟩) hS.2.2 hdg hlocks
  generalize MQ below (Qv0 G A (wX6 G ad ado fz ++ (wX0 G (ado 1) fnow ++ (wX0 G (ado 2) ftrialz)))) args s 0 0 A = Q at hRet ⊢
  have lk16 := hts (.fieldLink RX6 16 "FeatherShares" "trial" "LFeatherShares$Flock;") (by decide +kernel)
  have inX6 : ∀ w ∈ u_ws RX6 TX6 11, w ∈ wsX6_foretellByKind := by decide +kernel
  have lk12 := hts (.fieldLink RX6 12 "FeatherShares" "now" "LFeatherShares$Flock;") (by decide +kernel)
  have lk129 := va_Nw.use (A := args) rfl (hE.2.1 (RX6, 129, "FeatherShares$Flock", "kind", "[I", "FeatherShares") (List.mem_of_getElem? (i := 11) rfl))
  have inX0 : ∀ w ∈ u_ws RX0 TX0 13, w ∈ wsX6_foretellByKind := by decide +kernel
  have lk48 := hts (.fieldLink RX6 48 "FeatherShares" "laterByKind" "[I") (by decide +kernel)
  have hl : lv_has ls 5 [(0, .ref (ad 0)), (1, .int x1)] := hl
  have hK0 : (fz, ftrialz) = (fz, ftrialz) := rfl
  obtain ⟨res, hres, hK⟩ : ∃ res, p_X6_foretellByKind f fnow ftrial x1 = some res ∧ res = (fz, ftrialz) := ⟨_, hf, rfl⟩
  clear hf
  have hf := hres
  clear hres
  unfold p_X6_foretellByKind at hf
  refine lv_iconst (v := (nI 0)) hx hb dX6_foretellByKind_0 (ic_0) ?_
  refine lv_istore_n (lv' := [(2, .int (nI 0)), (0, .ref (ad 0)), (1, .int x1)]) hx hb dX6_foretellByKind_1 rfl hl (by decide) rfl (fun ls hl => ?_)
  obtain ⟨⟨f_2, ftrial_2⟩, hlp, hf⟩ := bd_e hf
  refine lp_W1 (p_X6_foretellByKind_L2 fnow x1) (fun z => match z with | (x2, f_, ftrial_) => ∀ (H : Heap) (locs : List Loc) (ls : Array Slot), va_P G.1 vwCl (wX6 G ad ado f_ ++ (wX0 G (ado 1) fnow ++ (wX0 G (ado 2) ftrial_))) H → va_D A (wX6 G ad ado f_ ++ (wX0 G (ado 1) fnow ++ (wX0 G (ado 2) ftrial_))) → va_S A s.heap H locs → lv_has ls 5 [(0, .ref (ad 0)), (1, .int x1), (2, .int x2)] → W p l e ({ frames := 4, cells := 0, slots := 0, locals := 110 }) s m args below meth c H locs 0 0 Q (F0 m 2 ls [])) (fun z => match z with | (f_2, ftrial_2) => ∀ (H : Heap) (locs : List Loc) (ls : Array Slot), va_P G.1 vwCl (wX6 G ad ado f_2 ++ (wX0 G (ado 1) fnow ++ (wX0 G (ado 2) ftrial_2))) H → va_D A (wX6 G ad ado f_2 ++ (wX0 G (ado 1) fnow ++ (wX0 G (ado 2) ftrial_2))) → va_S A s.heap H locs → lv_has ls 5 [] → W p l e ({ frames := 4, cells := 0, slots := 0, locals := 110 }) s m args below meth c H locs 0 0 Q (F0 m 93 ls [])) ?_ hlp ?_ _ _ _ hP hD hS (lv_sub hl [1, 2, 0] rfl)
  · clear hlp hf hK hP hD hS hl
    intro K2 hW2 hX2 
    rintro ⟨x2, f_, ftrial_⟩ res hf hK H locs ls hP hD hS hl
    unfold p_X6_foretellByKind_L2 at hf
    dsimp only at hf
    refine lv_iload_n hx hb dX6_foretellByKind_2 rfl (lv_at hl 2 rfl) ?_
    refine lv_iconst (v := (nI 4)) hx hb dX6_foretellByKind_3 (ic_4) ?_
    refine lv_icmp_ge (tgt := 93) hx hb dX6_foretellByKind_4 (by decide) (fun hc => ?_) (fun hc => ?_)
    · have hf := if_t hf hc
      have hK9 := K_of hf hK
      have hK9 := hX2 _ hK9
      exact hK9 _ _ _ hP hD hS (lv_sub hl [] rfl)
    · have hf := if_f hf hc
      refine lv_aload_n hx hb dX6_foretellByKind_7 rfl (lv_at hl 0 rfl) ?_
      refine va_get (C := RX6) (T := TX6) (N := 11) (ci := 6) (v := .ref ((ado 2) 0)) hx hb hts inX6 hown hT hP 0 rfl rfl 1 (Nat.le_of_ble_eq_true rfl) lk16 (fun _ h => h) rfl dX6_foretellByKind_8 ?_
      refine lv_aload_n hx hb dX6_foretellByKind_11 rfl (lv_at hl 0 rfl) ?_
      refine va_get (C := RX6) (T := TX6) (N := 11) (ci := 6) (v := .ref ((ado 1) 0)) hx hb hts inX6 hown hT hP 0 rfl rfl 0 (Nat.le_of_ble_eq_true rfl) lk12 (fun _ h => h) rfl dX6_foretellByKind_12 ?_
      obtain ⟨ftrial_15, hc15, hf⟩ := bd_e hf
      refine cl_v_up (Wd := (wX6 G ad ado f_ ++ (wX0 G (ado 1) fnow ++ (wX0 G (ado 2) ftrial_)))) (Wc := (wX0 G (ado 2) ftrial_ ++ (wX0 G (ado 1) fnow))) (W' := (wX0 G (ado 2) ftrial_15 ++ (wX0 G (ado 1) fnow))) (W2 := (wX6 G ad ado f_ ++ (wX0 G (ado 1) fnow ++ (wX0 G (ado 2) ftrial_15)))) (Wr := (wX6 G ad ado f_)) [15, 16, 17, 18, 19, 20, 21, 22, 23, 24, 25, 4, 5, 6, 7, 8, 9, 10, 11, 12, 13, 14] [0, 1, 2, 3] rfl rfl rfl rfl rfl rfl (va_runVN (As := [.ref ((ado 1) 0)]) (rest := []) hC (c_X0_copyFrom l G (ado 2) (ado 1) ftrial_ fnow ftrial_15 hc15 _) ⟨va_cnB 1 hts gX6_foretellByKind_X0_copyFrom_n93 rfl rfl rfl (hE.2.2 (RX6, 93, yX0_copyFrom, "FeatherShares") (List.mem_of_getElem? (i := 8) rfl)) (hts (.initialized RX0) (by decide +kernel)) (by decide +kernel) ⟨Nat.le_of_ble_eq_true rfl, Nat.le_of_ble_eq_true rfl⟩, hts (.instanceMethod yX0_copyFrom) (by decide +kernel), hts (.selects RX0 yX0_copyFrom yX0_copyFrom) (by decide +kernel)⟩ ⟨Pc0_blind, va_recv hT hP (q0 := 15) (ci := 0) rfl rfl, fun U hU hW => Pc0_at (Wd := (wX0 G (ado 2) ftrial_ ++ (wX0 G (ado 1) fnow))) hE (hP.subm [15, 16, 17, 18, 19, 20, 21, 22, 23, 24, 25, 4, 5, 6, 7, 8, 9, 10, 11, 12, 13, 14] rfl) (hD.sub [15, 16, 17, 18, 19, 20, 21, 22, 23, 24, 25, 4, 5, 6, 7, 8, 9, 10, 11, 12, 13, 14] (by decide) rfl) hU hW⟩ rfl rfl hl.1 rfl (lv_room (Nat.le_of_ble_eq_true rfl)) dX6_foretellByKind_15 ⟨Nat.zero_le _, Nat.zero_le _⟩) hS hA hP hD (fun H locs hP hD hS => ?_)
      refine lv_aload_n hx hb dX6_foretellByKind_18 rfl (lv_at hl 0 rfl) ?_
      refine va_get (C := RX6) (T := TX6) (N := 11) (ci := 6) (v := .ref ((ado 2) 0)) hx hb hts inX6 hown hT hP 0 rfl rfl 1 (Nat.le_of_ble_eq_true rfl) lk16 (fun _ h => h) rfl dX6_foretellByKind_19 ?_
      refine va_getN (C := RX0) (T := TX0) (N := 13) (ci := 0) (v := .ref ((ado 2) 1)) hx hb hts inX0 hown hT hP 15 rfl rfl 3 (Nat.le_of_ble_eq_true rfl) lk129 (fun _ h => h) rfl dX6_foretellByKind_22 ?_
      refine lv_iload_n hx hb dX6_foretellByKind_25 rfl (lv_at hl 1 rfl) ?_
      refine lv_iload_n hx hb dX6_foretellByKind_26 rfl (lv_at hl 2 rfl) ?_
      obtain ⟨hg, hf⟩ := gd_e hf
      obtain ⟨g27, eg27, hf⟩ := bnd_e hf
      refine va_iast (f := ftrial_15 1) hx hb hT hP hD hS 16 0 rfl rfl (inb_e hg) dX6_foretellByKind_27 (fun H locs hP hD hS => ?_)
      rw [← eg27] at hP hD
      have hP : va_P G.1 vwCl (wX6 G ad ado f_ ++ (wX0 G (ado 1) fnow ++ (wX0 G (ado 2) (mrow 1 (g27) ftrial_15)))) H := hP
      have hD : va_D A (wX6 G ad ado f_ ++ (wX0 G (ado 1) fnow ++ (wX0 G (ado 2) (mrow 1 (g27) ftrial_15)))) := hD
      refine lv_iconst (v := (nI 0)) hx hb dX6_foretellByKind_28 (ic_0) ?_
      refine lv_istore_n (lv' := [(3, .int (nI 0)), (0, .ref (ad 0)), (1, .int x1), (2, .int x2)]) hx hb dX6_foretellByKind_29 rfl hl (by decide) rfl (fun ls hl => ?_)
      obtain ⟨⟨f_30, ftrial_30⟩, hlp, hf⟩ := bd_e hf
      refine lp_W1 (p_X6_foretellByKind_L30 fnow x1 x2) (fun z => match z with | (x3, f_, ftrial_) => ∀ (H : Heap) (locs : List Loc) (ls : Array Slot), va_P G.1 vwCl (wX6 G ad ado f_ ++ (wX0 G (ado 1) fnow ++ (wX0 G (ado 2) ftrial_))) H → va_D A (wX6 G ad ado f_ ++ (wX0 G (ado 1) fnow ++ (wX0 G (ado 2) ftrial_))) → va_S A s.heap H locs → lv_has ls 5 [(0, .ref (ad 0)), (1, .int x1), (2, .int x2), (3, .int x3)] → W p l e ({ frames := 4, cells := 0, slots := 0, locals := 110 }) s m args below meth c H locs 0 0 Q (F0 m 30 ls [])) (fun z => match z with | (f_30, ftrial_30) => ∀ (H : Heap) (locs : List Loc) (ls : Array Slot), va_P G.1 vwCl (wX6 G ad ado f_30 ++ (wX0 G (ado 1) fnow ++ (wX0 G (ado 2) ftrial_30))) H → va_D A (wX6 G ad ado f_30 ++ (wX0 G (ado 1) fnow ++ (wX0 G (ado 2) ftrial_30))) → va_S A s.heap H locs → lv_has ls 5 [(0, .ref (ad 0)), (1, .int x1), (2, .int x2)] → W p l e ({ frames := 4, cells := 0, slots := 0, locals := 110 }) s m args below meth c H locs 0 0 Q (F0 m 87 ls [])) ?_ hlp ?_ _ _ _ hP hD hS (lv_sub hl [1, 2, 3, 0] rfl)
      · clear hlp hf hK hP hD hS hl
        intro K30 hW30 hX30 
        rintro ⟨x3, f_, ftrial_⟩ res hf hK H locs ls hP hD hS hl
        unfold p_X6_foretellByKind_L30 at hf
        dsimp only at hf
        refine lv_iload_n hx hb dX6_foretellByKind_30 rfl (lv_at hl 3 rfl) ?_
        refine lv_bipush (v := (nI 20)) hx hb dX6_foretellByKind_31 (bi_20) ?_
        refine lv_icmp_gt (tgt := 87) hx hb dX6_foretellByKind_33 (by decide) (fun hc => ?_) (fun hc => ?_)
        · have hf := if_t hf hc
          have hK9 := K_of hf hK
          have hK9 := hX30 _ hK9
          exact hK9 _ _ _ hP hD hS (lv_sub hl [0, 1, 2] rfl)
        · have hf := if_f hf hc
          refine lv_iconst (v := (nI 0)) hx hb dX6_foretellByKind_36 (ic_0) ?_
          refine lv_istore (lv' := [(4, .int (nI 0)), (0, .ref (ad 0)), (1, .int x1), (2, .int x2), (3, .int x3)]) hx hb dX6_foretellByKind_37 hl (by decide) rfl (fun ls hl => ?_)
          obtain ⟨f_39, hlp, hf⟩ := bd_e hf
          refine lp_W1 (p_X6_foretellByKind_L39 fnow ftrial_ x1 x2 x3) (fun z => match z with | (x4, f_) => ∀ (H : Heap) (locs : List Loc) (ls : Array Slot), va_P G.1 vwCl (wX6 G ad ado f_ ++ (wX0 G (ado 1) fnow ++ (wX0 G (ado 2) ftrial_))) H → va_D A (wX6 G ad ado f_ ++ (wX0 G (ado 1) fnow ++ (wX0 G (ado 2) ftrial_))) → va_S A s.heap H locs → lv_has ls 5 [(0, .ref (ad 0)), (1, .int x1), (2, .int x2), (3, .int x3), (4, .int x4)] → W p l e ({ frames := 4, cells := 0, slots := 0, locals := 110 }) s m args below meth c H locs 0 0 Q (F0 m 39 ls [])) (fun (f_39 : Mem) => ∀ (H : Heap) (locs : List Loc) (ls : Array Slot), va_P G.1 vwCl (wX6 G ad ado f_39 ++ (wX0 G (ado 1) fnow ++ (wX0 G (ado 2) ftrial_))) H → va_D A (wX6 G ad ado f_39 ++ (wX0 G (ado 1) fnow ++ (wX0 G (ado 2) ftrial_))) → va_S A s.heap H locs → lv_has ls 5 [(0, .ref (ad 0)), (1, .int x1), (2, .int x2), (3, .int x3)] → W p l e ({ frames := 4, cells := 0, slots := 0, locals := 110 }) s m args below meth c H locs 0 0 Q (F0 m 73 ls [])) ?_ hlp ?_ _ _ _ hP hD hS (lv_sub hl [1, 2, 3, 4, 0] rfl)
          · clear hlp hf hK hP hD hS hl
            generalize ftrial_ = ftrial
            intro K39 hW39 hX39 
            rintro ⟨x4, f_⟩ res hf hK H locs ls hP hD hS hl
            unfold p_X6_foretellByKind_L39 at hf
            dsimp only at hf
            refine lv_iload hx hb dX6_foretellByKind_39 (lv_at hl 4 rfl) ?_
            refine lv_iconst (v := (nI 5)) hx hb dX6_foretellByKind_41 (ic_5) ?_
            refine lv_icmp_ge (tgt := 73) hx hb dX6_foretellByKind_42 (by decide) (fun hc => ?_) (fun hc => ?_)
            · have hf := if_t hf hc
              have hK9 := K_of hf hK
              have hK9 := hX39 _ hK9
              exact hK9 _ _ _ hP hD hS (lv_sub hl [0, 1, 2, 3] rfl)
            · have hf := if_f hf hc
              refine lv_aload_n hx hb dX6_foretellByKind_45 rfl (lv_at hl 0 rfl) ?_
              refine va_get (C := RX6) (T := TX6) (N := 11) (ci := 6) (v := .ref (ad 2)) hx hb hts inX6 hown hT hP 0 rfl rfl 7 (Nat.le_of_ble_eq_true rfl) lk48 (fun _ h => h) rfl dX6_foretellByKind_46 ?_
              refine lv_iload_n hx hb dX6_foretellByKind_49 rfl (lv_at hl 2 rfl) ?_
              refine lv_iload_n hx hb dX6_foretellByKind_50 rfl (lv_at hl 3 rfl) ?_
              refine lv_iload hx hb dX6_foretellByKind_51 (lv_at hl 4 rfl) ?_
              obtain ⟨r53, hc53, hf⟩ := bd_e hf
              refine cl_i_ro (Wd := (wX6 G ad ado f_ ++ (wX0 G (ado 1) fnow ++ (wX0 G (ado 2) ftrial)))) (Wc := ([] : va_W)) [] rfl (va_runS (As := [.int x2, .int x3, .int x4]) (rest := [.ref (ad 2)]) hC (c_X6_placeByKind l G x2 x3 x4 r53 hc53 _) (va_cwS 3 hts gX6_foretellByKind_X6_placeByKind rfl rfl rfl (by decide +kernel) ⟨Nat.le_of_ble_eq_true rfl, Nat.le_of_ble_eq_true rfl⟩) ⟨Pc0_blind, fun U hU hW => Pc0_at (Wd := ([] : va_W)) hE (hP.subm [] rfl) (hD.sub [] (by decide) rfl) hU hW⟩ rfl rfl hl.1 rfl (lv_room (Nat.le_of_ble_eq_true rfl)) dX6_foretellByKind_53 ⟨Nat.zero_le _, Nat.zero_le _⟩) hS hA hP hD (fun H locs hP hD hS => ?_)
              refine lv_aload_n hx hb dX6_foretellByKind_56 rfl (lv_at hl 0 rfl) ?_
              refine va_get (C := RX6) (T := TX6) (N := 11) (ci := 6) (v := .ref ((ado 2) 0)) hx hb hts inX6 hown hT hP 0 rfl rfl 1 (Nat.le_of_ble_eq_true rfl) lk16 (fun _ h => h) rfl dX6_foretellByKind_57 ?_
              refine lv_iload_n hx hb dX6_foretellByKind_60 rfl (lv_at hl 1 rfl) ?_
              refine lv_iload hx hb dX6_foretellByKind_61 (lv_at hl 4 rfl) ?_
              obtain ⟨r63, hc63, hf⟩ := bd_e hf
              refine cl_i_ro (Wd := (wX6 G ad ado f_ ++ (wX0 G (ado 1) fnow ++ (wX0 G (ado 2) ftrial)))) (Wc := (wX0 G (ado 2) ftrial)) [15, 16, 17, 18, 19, 20, 21, 22, 23, 24, 25] rfl (va_runVN (As := [.int x1, .int x4]) (rest := [.int r53, .ref (ad 2)]) hC (c_X0_held l G (ado 2) ftrial x1 x4 r63 hc63 _) ⟨va_cnB 2 hts gX6_foretellByKind_X0_held_n152 rfl rfl rfl (hE.2.2 (RX6, 152, yX0_held, "FeatherShares") (List.mem_of_getElem? (i := 14) rfl)) (hts (.initialized RX0) (by decide +kernel)) (by decide +kernel) ⟨Nat.le_of_ble_eq_true rfl, Nat.le_of_ble_eq_true rfl⟩, hts (.instanceMethod yX0_held) (by decide +kernel), hts (.selects RX0 yX0_held yX0_held) (by decide +kernel)⟩ ⟨Pc0_blind, va_recv hT hP (q0 := 15) (ci := 0) rfl rfl, fun U hU hW => Pc0_at (Wd := (wX0 G (ado 2) ftrial)) hE (hP.subm [15, 16, 17, 18, 19, 20, 21, 22, 23, 24, 25] rfl) (hD.sub [15, 16, 17, 18, 19, 20, 21, 22, 23, 24, 25] (by decide) rfl) hU hW⟩ rfl rfl hl.1 rfl (lv_room (Nat.le_of_ble_eq_true rfl)) dX6_foretellByKind_63 ⟨Nat.zero_le _, Nat.zero_le _⟩) hS hA hP hD (fun H locs hP hD hS => ?_)
              obtain ⟨hg, hf⟩ := gd_e hf
              obtain ⟨g66, eg66, hf⟩ := bnd_e hf
              refine va_iast (f := f_ 2) hx hb hT hP hD hS 2 0 rfl rfl (inb_e hg) dX6_foretellByKind_66 (fun H locs hP hD hS => ?_)
              rw [← eg66] at hP hD
              have hP : va_P G.1 vwCl (wX6 G ad ado (mrow 2 (g66) f_) ++ (wX0 G (ado 1) fnow ++ (wX0 G (ado 2) ftrial))) H := hP
              have hD : va_D A (wX6 G ad ado (mrow 2 (g66) f_) ++ (wX0 G (ado 1) fnow ++ (wX0 G (ado 2) ftrial))) := hD
              refine lv_iinc (v := (x4 + nI 1)) (lv' := [(4, .int (x4 + nI 1)), (0, .ref (ad 0)), (1, .int x1), (2, .int x2), (3, .int x3)]) hx hb dX6_foretellByKind_67 hl (k := 4) rfl (ii_x 1 _) (by decide) rfl (fun ls hl => ?_)
              refine lv_goto (tgt := 39) hx hb dX6_foretellByKind_70 (by decide) ?_
              have hK9 := K_of hf hK
              have hK9 := hW39 _ hK9
              exact hK9 _ _ _ hP hD hS (lv_sub hl [1, 2, 3, 4, 0] rfl)
          · try dsimp only at hf
            show ∀ (H : Heap) (locs : List Loc) (ls : Array Slot), va_P G.1 vwCl (wX6 G ad ado f_39 ++ (wX0 G (ado 1) fnow ++ (wX0 G (ado 2) ftrial_))) H → va_D A (wX6 G ad ado f_39 ++ (wX0 G (ado 1) fnow ++ (wX0 G (ado 2) ftrial_))) → va_S A s.heap H locs → lv_has ls 5 [(0, .ref (ad 0)), (1, .int x1), (2, .int x2), (3, .int x3)] → W p l e ({ frames := 4, cells := 0, slots := 0, locals := 110 }) s m args below meth c H locs 0 0 Q (F0 m 73 ls [])
            intro H locs ls hP hD hS hl
            refine lv_aload_n hx hb dX6_foretellByKind_73 rfl (lv_at hl 0 rfl) ?_
            refine va_get (C := RX6) (T := TX6) (N := 11) (ci := 6) (v := .ref ((ado 2) 0)) hx hb hts inX6 hown hT hP 0 rfl rfl 1 (Nat.le_of_ble_eq_true rfl) lk16 (fun _ h => h) rfl dX6_foretellByKind_74 ?_
            obtain ⟨⟨r77, ftrial_77⟩, hc77, hf⟩ := bd_e hf
            try dsimp only at hf
            refine cl_i_up (Wd := (wX6 G ad ado f_39 ++ (wX0 G (ado 1) fnow ++ (wX0 G (ado 2) ftrial_)))) (Wc := (wX0 G (ado 2) ftrial_)) (W' := (wX0 G (ado 2) ftrial_77)) (W2 := (wX6 G ad ado f_39 ++ (wX0 G (ado 1) fnow ++ (wX0 G (ado 2) ftrial_77)))) (Wr := (wX6 G ad ado f_39 ++ (wX0 G (ado 1) fnow))) [15, 16, 17, 18, 19, 20, 21, 22, 23, 24, 25] [0, 1, 2, 3, 4, 5, 6, 7, 8, 9, 10, 11, 12, 13, 14] rfl rfl rfl rfl rfl rfl (va_runVN (As := []) (rest := []) hC (c_X0_passWeek l G (ado 2) ftrial_ r77 ftrial_77 hc77 _) ⟨va_cnB 0 hts gX6_foretellByKind_X0_passWeek_n207 rfl rfl rfl (hE.2.2 (RX6, 207, yX0_passWeek, "FeatherShares") (List.mem_of_getElem? (i := 25) rfl)) (hts (.initialized RX0) (by decide +kernel)) (by decide +kernel) ⟨Nat.le_of_ble_eq_true rfl, Nat.le_of_ble_eq_true rfl⟩, hts (.instanceMethod yX0_passWeek) (by decide +kernel), hts (.selects RX0 yX0_passWeek yX0_passWeek) (by decide +kernel)⟩ ⟨Pc0_blind, va_recv hT hP (q0 := 15) (ci := 0) rfl rfl, fun U hU hW => Pc0_at (Wd := (wX0 G (ado 2) ftrial_)) hE (hP.subm [15, 16, 17, 18, 19, 20, 21, 22, 23, 24, 25] rfl) (hD.sub [15, 16, 17, 18, 19, 20, 21, 22, 23, 24, 25] (by decide) rfl) hU hW⟩ rfl rfl hl.1 rfl (lv_room (Nat.le_of_ble_eq_true rfl)) dX6_foretellByKind_77 ⟨Nat.zero_le _, Nat.zero_le _⟩) hS hA hP hD (fun H locs hP hD hS => ?_)
            refine lv_pop hx hb dX6_foretellByKind_80 rfl ?_
            refine lv_iinc (v := (x3 + nI 1)) (lv' := [(3, .int (x3 + nI 1)), (0, .ref (ad 0)), (1, .int x1), (2, .int x2)]) hx hb dX6_foretellByKind_81 hl (k := 3) rfl (ii_x 1 _) (by decide) rfl (fun ls hl => ?_)
            refine lv_goto (tgt := 30) hx hb dX6_foretellByKind_84 (by decide) ?_
            have hK9 := K_of hf hK
            have hK9 := hW30 _ hK9
            exact hK9 _ _ _ hP hD hS (lv_sub hl [1, 2, 3, 0] rfl)
      · try dsimp only at hf
        show ∀ (H : Heap) (locs : List Loc) (ls : Array Slot), va_P G.1 vwCl (wX6 G ad ado f_30 ++ (wX0 G (ado 1) fnow ++ (wX0 G (ado 2) ftrial_30))) H → va_D A (wX6 G ad ado f_30 ++ (wX0 G (ado 1) fnow ++ (wX0 G (ado 2) ftrial_30))) → va_S A s.heap H locs → lv_has ls 5 [(0, .ref (ad 0)), (1, .int x1), (2, .int x2)] → W p l e ({ frames := 4, cells := 0, slots := 0, locals := 110 }) s m args below meth c H locs 0 0 Q (F0 m 87 ls [])
        intro H locs ls hP hD hS hl
        refine lv_iinc (v := (x2 + nI 1)) (lv' := [(2, .int (x2 + nI 1)), (0, .ref (ad 0)), (1, .int x1)]) hx hb dX6_foretellByKind_87 hl (k := 2) rfl (ii_x 1 _) (by decide) rfl (fun ls hl => ?_)
        refine lv_goto (tgt := 2) hx hb dX6_foretellByKind_90 (by decide) ?_
        have hK9 := K_of hf hK
        have hK9 := hW2 _ hK9
        exact hK9 _ _ _ hP hD hS (lv_sub hl [1, 2, 0] rfl)
  · try dsimp only at hf
    show ∀ (H : Heap) (locs : List Loc) (ls : Array Slot), va_P G.1 vwCl (wX6 G ad ado f_2 ++ (wX0 G (ado 1) fnow ++ (wX0 G (ado 2) ftrial_2))) H → va_D A (wX6 G ad ado f_2 ++ (wX0 G (ado 1) fnow ++ (wX0 G (ado 2) ftrial_2))) → va_S A s.heap H locs → lv_has ls 5 [] → W p l e ({ frames := 4, cells := 0, slots := 0, locals := 110 }) s m args below meth c H locs 0 0 Q (F0 m 93 ls [])
    intro H locs ls hP hD hS hl
    have hK9 := K0_of hf hK
    exact hRet f_2 ftrial_2 _ _ _ _ hK9 dX6_foretellByKind_93 hP hD hS
noncomputable def p_X6_mostKindsAlike_B44 (f : Mem) (x1 : Int32) (x2 : Int32) (x3 : Int32) (x4 : Int32) (x5 : Int32) (x6 : Int32) (x7 : Int32) (s0 : Int32) : Option ((Int32 × Int32) ⊕ Int32) :=
  if s0 = 0 then
    (some (Sum.inl (x6, (x7 + nI 1))))
  else
    (Option.bind (p_X6_placeByKind x5 x2 x3) <| fun r59 =>
     gd (inb r59 420) <|
     Option.bind (p_X6_placeByKind x7 x2 x3) <| fun r71 =>
     gd (inb r71 420) <|
     if (f 2 r59.toNatClampNeg) = (f 2 r71.toNatClampNeg) then
       (some (Sum.inl ((x6 + nI 1), (x7 + nI 1))))
     else
       (some (Sum.inl (x6, (x7 + nI 1)))))
noncomputable def p_X6_mostKindsAlike_L18 (f : Mem) (x1 : Int32) (x2 : Int32) (x3 : Int32) (x4 : Int32) (x5 : Int32) (z : Int32 × Int32) : Option ((Int32 × Int32) ⊕ Int32) :=
  match z with
  | (x6, x7) =>
    if (nI 4) ≤ x7 then
      (some (Sum.inr x6))
    else
      (if (((x1 >>> (x5 &&& 31)) &&& (x1 >>> (x7 &&& 31))) &&& (nI 1)) = (nI 1) then
         (p_X6_mostKindsAlike_B44 f x1 x2 x3 x4 x5 x6 x7 (nI 1))
       else
         (p_X6_mostKindsAlike_B44 f x1 x2 x3 x4 x5 x6 x7 (nI 0)))
noncomputable def p_X6_mostKindsAlike_L6 (f : Mem) (x1 : Int32) (x2 : Int32) (x3 : Int32) (z : Int32 × Int32) : Option ((Int32 × Int32) ⊕ Int32) :=
  match z with
  | (x4, x5) =>
    if (nI 4) ≤ x5 then
      (some (Sum.inr x4))
    else
      (Option.bind (lp (p_X6_mostKindsAlike_L18 f x1 x2 x3 x4 x5) ((nI 0), (nI 0))) <| fun y6_18 =>
       some (Sum.inl ((if x4 < y6_18 then y6_18 else x4), (x5 + nI 1))))
noncomputable def p_X6_mostKindsAlike (f : Mem) (x1 : Int32) (x2 : Int32) (x3 : Int32) : Option (Int32) :=
  Option.bind (lp (p_X6_mostKindsAlike_L6 f x1 x2 x3) ((nI 0), (nI 0))) <| fun y4_6 =>
  some y4_6
set_option maxHeartbeats 4000000 in
set_option maxRecDepth 100000 in
theorem c_X6_mostKindsAlike (l : Launch) (G : Gt) (ad : Nat → Nat) (ado : Nat → Nat → Nat) (f : Mem) (x1 : Int32) (x2 : Int32) (x3 : Int32) (r : Int32) (hf : p_X6_mostKindsAlike f x1 x2 x3 = some r) (sz : Nat) : Met l yX6_mostKindsAlike wsX6_mostKindsAlike ({ frames := 2, cells := 0, slots := 0, locals := 40 }) (Pc0 G sz [.ref (ad 0), .int x1, .int x2, .int x3] (wX6 G ad ado f)) (Qi0 G (va_A (wX6 G ad ado f) sz) r (wX6 G ad ado f)) 0 0 (va_A (wX6 G ad ado f) sz) := by
  refine metP (Qf := fun A => Qi0 G A r (wX6 G ad ado f)) cX6_mostKindsAlike 9 (some .int) (by decide) rfl (Nat.le_of_ble_eq_true rfl) ?_
  intro p e s m below meth c A ls hC hr hlocks hin hE hA hsz hP hD hS hl
  generalize hargs : ([.ref (ad 0), .int x1, .int x2, .int x3] : List Value).toArray = args at hC ⊢
  obtain ⟨hx, hb, hml, hown, hts⟩ := id hC
  have hT : va_K G.1 vwCl (tyL G) s := hE.1
  have hRet : ∀ (r9 : Int32) (H : Heap) (locs : List Loc) (ls : Array Slot) (pc : Nat) (hK9 : r9 = r) (hdg : decode cX6_mostKindsAlike pc = .ok (.ireturn, 1)), va_P G.1 vwCl (wX6 G ad ado f) H → va_D A (wX6 G ad ado f) → va_S A s.heap H locs → W p l e ({ frames := 2, cells := 0, slots := 0, locals := 40 }) s m args below meth c H locs 0 0 (MQ below (Qi0 G A r (wX6 G ad ado f)) args s 0 0 A) (F0 m pc ls [.int r9]) := by
    intro r9 H locs ls pc hK9 hdg hP hD hS
    cases hK9
    exact W.iret hx hb hr (fun t ht hW => ⟨⟨r, (), rfl, rfl, by rw [ht]; exact hP, hD⟩, hS.F ht⟩) hS.2.2 hdg hlocks
  generalize MQ below (Qi0 G A r (wX6 G ad ado f)) args s 0 0 A = Q at hRet ⊢
  have lk48 := hts (.fieldLink RX6 48 "FeatherShares" "laterByKind" "[I") (by decide +kernel)
  have inX6 : ∀ w ∈ u_ws RX6 TX6 11, w ∈ wsX6_mostKindsAlike := by decide +kernel
  have hl : lv_has ls 9 [(0, .ref (ad 0)), (1, .int x1), (2, .int x2), (3, .int x3)] := hl
  have hK0 : r = r := rfl
  obtain ⟨res, hres, hK⟩ : ∃ res, p_X6_mostKindsAlike f x1 x2 x3 = some res ∧ res = r := ⟨_, hf, rfl⟩
  clear hf
  have hf := hres
  clear hres
  unfold p_X6_mostKindsAlike at hf
  refine lv_iconst (v := (nI 0)) hx hb dX6_mostKindsAlike_0 (ic_0) ?_
  refine lv_istore (lv' := [(4, .int (nI 0)), (0, .ref (ad 0)), (1, .int x1), (2, .int x2), (3, .int x3)]) hx hb dX6_mostKindsAlike_1 hl (by decide) rfl (fun ls hl => ?_)
  refine lv_iconst (v := (nI 0)) hx hb dX6_mostKindsAlike_3 (ic_0) ?_
  refine lv_istore (lv' := [(5, .int (nI 0)), (4, .int (nI 0)), (0, .ref (ad 0)), (1, .int x1), (2, .int x2), (3, .int x3)]) hx hb dX6_mostKindsAlike_4 hl (by decide) rfl (fun ls hl => ?_)
  obtain ⟨y4_6, hlp, hf⟩ := bd_e hf
  refine lp_W1 (p_X6_mostKindsAlike_L6 f x1 x2 x3) (fun z => match z with | (x4, x5) => ∀ (H : Heap) (locs : List Loc) (ls : Array Slot), va_P G.1 vwCl (wX6 G ad ado f) H → va_D A (wX6 G ad ado f) → va_S A s.heap H locs → lv_has ls 9 [(0, .ref (ad 0)), (1, .int x1), (2, .int x2), (3, .int x3), (4, .int x4), (5, .int x5)] → W p l e ({ frames := 2, cells := 0, slots := 0, locals := 40 }) s m args below meth c H locs 0 0 Q (F0 m 6 ls [])) (fun (y4_6 : Int32) => ∀ (H : Heap) (locs : List Loc) (ls : Array Slot), va_P G.1 vwCl (wX6 G ad ado f) H → va_D A (wX6 G ad ado f) → va_S A s.heap H locs → lv_has ls 9 [(4, .int y4_6)] → W p l e ({ frames := 2, cells := 0, slots := 0, locals := 40 }) s m args below meth c H locs 0 0 Q (F0 m 102 ls [])) ?_ hlp ?_ _ _ _ hP hD hS (lv_sub hl [2, 3, 4, 5, 1, 0] rfl)
  · clear hlp hf hK hP hD hS hl
    intro K6 hW6 hX6 
    rintro ⟨x4, x5⟩ res hf hK H locs ls hP hD hS hl
    unfold p_X6_mostKindsAlike_L6 at hf
    dsimp only at hf
    refine lv_iload hx hb dX6_mostKindsAlike_6 (lv_at hl 5 rfl) ?_
    refine lv_iconst (v := (nI 4)) hx hb dX6_mostKindsAlike_8 (ic_4) ?_
    refine lv_icmp_ge (tgt := 102) hx hb dX6_mostKindsAlike_9 (by decide) (fun hc => ?_) (fun hc => ?_)
    · have hf := if_t hf hc
      have hK9 := K_of hf hK
      have hK9 := hX6 _ hK9
      exact hK9 _ _ _ hP hD hS (lv_sub hl [4] rfl)
    · have hf := if_f hf hc
      refine lv_iconst (v := (nI 0)) hx hb dX6_mostKindsAlike_12 (ic_0) ?_
      refine lv_istore (lv' := [(6, .int (nI 0)), (0, .ref (ad 0)), (1, .int x1), (2, .int x2), (3, .int x3), (4, .int x4), (5, .int x5)]) hx hb dX6_mostKindsAlike_13 hl (by decide) rfl (fun ls hl => ?_)
      refine lv_iconst (v := (nI 0)) hx hb dX6_mostKindsAlike_15 (ic_0) ?_
      refine lv_istore (lv' := [(7, .int (nI 0)), (6, .int (nI 0)), (0, .ref (ad 0)), (1, .int x1), (2, .int x2), (3, .int x3), (4, .int x4), (5, .int x5)]) hx hb dX6_mostKindsAlike_16 hl (by decide) rfl (fun ls hl => ?_)
      obtain ⟨y6_18, hlp, hf⟩ := bd_e hf
      refine lp_W1 (p_X6_mostKindsAlike_L18 f x1 x2 x3 x4 x5) (fun z => match z with | (x6, x7) => ∀ (H : Heap) (locs : List Loc) (ls : Array Slot), va_P G.1 vwCl (wX6 G ad ado f) H → va_D A (wX6 G ad ado f) → va_S A s.heap H locs → lv_has ls 9 [(0, .ref (ad 0)), (1, .int x1), (2, .int x2), (3, .int x3), (4, .int x4), (5, .int x5), (6, .int x6), (7, .int x7)] → W p l e ({ frames := 2, cells := 0, slots := 0, locals := 40 }) s m args below meth c H locs 0 0 Q (F0 m 18 ls [])) (fun (y6_18 : Int32) => ∀ (H : Heap) (locs : List Loc) (ls : Array Slot), va_P G.1 vwCl (wX6 G ad ado f) H → va_D A (wX6 G ad ado f) → va_S A s.heap H locs → lv_has ls 9 [(0, .ref (ad 0)), (1, .int x1), (2, .int x2), (3, .int x3), (4, .int x4), (5, .int x5), (6, .int y6_18)] → W p l e ({ frames := 2, cells := 0, slots := 0, locals := 40 }) s m args below meth c H locs 0 0 Q (F0 m 87 ls [])) ?_ hlp ?_ _ _ _ hP hD hS (lv_sub hl [2, 3, 4, 5, 6, 7, 1, 0] rfl)
      · clear hlp hf hK hP hD hS hl
        intro K18 hW18 hX18 
        have hB44 : ∀ (x6 : Int32) (x7 : Int32) (s0 : Int32) (res : (Int32 × Int32) ⊕ Int32) (hf : p_X6_mostKindsAlike_B44 f x1 x2 x3 x4 x5 x6 x7 s0 = some res) (hK : K18 res), ∀ (H : Heap) (locs : List Loc) (ls : Array Slot), va_P G.1 vwCl (wX6 G ad ado f) H → va_D A (wX6 G ad ado f) → va_S A s.heap H locs → lv_has ls 9 [(0, .ref (ad 0)), (1, .int x1), (2, .int x2), (3, .int x3), (4, .int x4), (5, .int x5), (6, .int x6), (7, .int x7)] → W p l e ({ frames := 2, cells := 0, slots := 0, locals := 40 }) s m args below meth c H locs 0 0 Q (F0 m 44 ls [.int s0]) := by
          intro x6 x7 s0 res hf hK H locs ls hP hD hS hl
          unfold p_X6_mostKindsAlike_B44 at hf
          refine lv_istore (lv' := [(8, .int s0), (0, .ref (ad 0)), (1, .int x1), (2, .int x2), (3, .int x3), (4, .int x4), (5, .int x5), (6, .int x6), (7, .int x7)]) hx hb dX6_mostKindsAlike_44 hl (by decide) rfl (fun ls hl => ?_)
          refine lv_iload hx hb dX6_mostKindsAlike_46 (lv_at hl 0 rfl) ?_
          refine lv_if_eq (tgt := 81) hx hb dX6_mostKindsAlike_48 (by decide) (fun hc => ?_) (fun hc => ?_)
          · have hf := if_t hf hc
            refine lv_iinc (v := (x7 + nI 1)) (lv' := [(7, .int (x7 + nI 1)), (8, .int s0), (0, .ref (ad 0)), (1, .int x1), (2, .int x2), (3, .int x3), (4, .int x4), (5, .int x5), (6, .int x6)]) hx hb dX6_mostKindsAlike_81 hl (k := 8) rfl (ii_x 1 _) (by decide) rfl (fun ls hl => ?_)
            refine lv_goto (tgt := 18) hx hb dX6_mostKindsAlike_84 (by decide) ?_
            have hK9 := K_of hf hK
            have hK9 := hW18 _ hK9
            exact hK9 _ _ _ hP hD hS (lv_sub hl [2, 3, 4, 5, 6, 7, 8, 0] rfl)
          · have hf := if_f hf hc
            refine lv_aload_n hx hb dX6_mostKindsAlike_51 rfl (lv_at hl 1 rfl) ?_
            refine va_get (C := RX6) (T := TX6) (N := 11) (ci := 6) (v := .ref (ad 2)) hx hb hts inX6 hown hT hP 0 rfl rfl 7 (Nat.le_of_ble_eq_true rfl) lk48 (fun _ h => h) rfl dX6_mostKindsAlike_52 ?_
            refine lv_iload hx hb dX6_mostKindsAlike_55 (lv_at hl 6 rfl) ?_
            refine lv_iload_n hx hb dX6_mostKindsAlike_57 rfl (lv_at hl 3 rfl) ?_
            refine lv_iload_n hx hb dX6_mostKindsAlike_58 rfl (lv_at hl 4 rfl) ?_
            obtain ⟨r59, hc59, hf⟩ := bd_e hf
            refine cl_i_ro (Wd := (wX6 G ad ado f)) (Wc := ([] : va_W)) [] rfl (va_runS (As := [.int x5, .int x2, .int x3]) (rest := [.ref (ad 2)]) hC (c_X6_placeByKind l G x5 x2 x3 r59 hc59 _) (va_cwS 3 hts gX6_mostKindsAlike_X6_placeByKind rfl rfl rfl (by decide +kernel) ⟨Nat.le_of_ble_eq_true rfl, Nat.le_of_ble_eq_true rfl⟩) ⟨Pc0_blind, fun U hU hW => Pc0_at (Wd := ([] : va_W)) hE (hP.subm [] rfl) (hD.sub [] (by decide) rfl) hU hW⟩ rfl rfl hl.1 rfl (lv_room (Nat.le_of_ble_eq_true rfl)) dX6_mostKindsAlike_59 ⟨Nat.zero_le _, Nat.zero_le _⟩) hS hA hP hD (fun H locs hP hD hS => ?_)
            obtain ⟨hg, hf⟩ := gd_e hf
            refine va_iald (f := f 2) hx hb hT hP 2 0 rfl rfl (inb_e hg) dX6_mostKindsAlike_62 ?_
            refine lv_aload_n hx hb dX6_mostKindsAlike_63 rfl (lv_at hl 1 rfl) ?_
            refine va_get (C := RX6) (T := TX6) (N := 11) (ci := 6) (v := .ref (ad 2)) hx hb hts inX6 hown hT hP 0 rfl rfl 7 (Nat.le_of_ble_eq_true rfl) lk48 (fun _ h => h) rfl dX6_mostKindsAlike_64 ?_
            refine lv_iload hx hb dX6_mostKindsAlike_67 (lv_at hl 8 rfl) ?_
            refine lv_iload_n hx hb dX6_mostKindsAlike_69 rfl (lv_at hl 3 rfl) ?_
            refine lv_iload_n hx hb dX6_mostKindsAlike_70 rfl (lv_at hl 4 rfl) ?_
            obtain ⟨r71, hc71, hf⟩ := bd_e hf
            refine cl_i_ro (Wd := (wX6 G ad ado f)) (Wc := ([] : va_W)) [] rfl (va_runS (As := [.int x7, .int x2, .int x3]) (rest := [.ref (ad 2), .int (f 2 r59.toNatClampNeg)]) hC (c_X6_placeByKind l G x7 x2 x3 r71 hc71 _) (va_cwS 3 hts gX6_mostKindsAlike_X6_placeByKind rfl rfl rfl (by decide +kernel) ⟨Nat.le_of_ble_eq_true rfl, Nat.le_of_ble_eq_true rfl⟩) ⟨Pc0_blind, fun U hU hW => Pc0_at (Wd := ([] : va_W)) hE (hP.subm [] rfl) (hD.sub [] (by decide) rfl) hU hW⟩ rfl rfl hl.1 rfl (lv_room (Nat.le_of_ble_eq_true rfl)) dX6_mostKindsAlike_71 ⟨Nat.zero_le _, Nat.zero_le _⟩) hS hA hP hD (fun H locs hP hD hS => ?_)
            obtain ⟨hg, hf⟩ := gd_e hf
            refine va_iald (f := f 2) hx hb hT hP 2 0 rfl rfl (inb_e hg) dX6_mostKindsAlike_74 ?_
            refine lv_icmp_ne (tgt := 81) hx hb dX6_mostKindsAlike_75 (by decide) (fun hc => ?_) (fun hc => ?_)
            · have hf := if_f hf hc
              refine lv_iinc (v := (x7 + nI 1)) (lv' := [(7, .int (x7 + nI 1)), (8, .int s0), (0, .ref (ad 0)), (1, .int x1), (2, .int x2), (3, .int x3), (4, .int x4), (5, .int x5), (6, .int x6)]) hx hb dX6_mostKindsAlike_81 hl (k := 8) rfl (ii_x 1 _) (by decide) rfl (fun ls hl => ?_)
              refine lv_goto (tgt := 18) hx hb dX6_mostKindsAlike_84 (by decide) ?_
              have hK9 := K_of hf hK
              have hK9 := hW18 _ hK9
              exact hK9 _ _ _ hP hD hS (lv_sub hl [2, 3, 4, 5, 6, 7, 8, 0] rfl)
            · have hf := if_t hf hc
              refine lv_iinc (v := (x6 + nI 1)) (lv' := [(6, .int (x6 + nI 1)), (8, .int s0), (0, .ref (ad 0)), (1, .int x1), (2, .int x2), (3, .int x3), (4, .int x4), (5, .int x5), (7, .int x7)]) hx hb dX6_mostKindsAlike_78 hl (k := 7) rfl (ii_x 1 _) (by decide) rfl (fun ls hl => ?_)
              refine lv_iinc (v := (x7 + nI 1)) (lv' := [(7, .int (x7 + nI 1)), (6, .int (x6 + nI 1)), (8, .int s0), (0, .ref (ad 0)), (1, .int x1), (2, .int x2), (3, .int x3), (4, .int x4), (5, .int x5)]) hx hb dX6_mostKindsAlike_81 hl (k := 8) rfl (ii_x 1 _) (by decide) rfl (fun ls hl => ?_)
              refine lv_goto (tgt := 18) hx hb dX6_mostKindsAlike_84 (by decide) ?_
              have hK9 := K_of hf hK
              have hK9 := hW18 _ hK9
              exact hK9 _ _ _ hP hD hS (lv_sub hl [3, 4, 5, 6, 7, 8, 1, 0] rfl)
        rintro ⟨x6, x7⟩ res hf hK H locs ls hP hD hS hl
        unfold p_X6_mostKindsAlike_L18 at hf
        dsimp only at hf
        refine lv_iload hx hb dX6_mostKindsAlike_18 (lv_at hl 7 rfl) ?_
        refine lv_iconst (v := (nI 4)) hx hb dX6_mostKindsAlike_20 (ic_4) ?_
        refine lv_icmp_ge (tgt := 87) hx hb dX6_mostKindsAlike_21 (by decide) (fun hc => ?_) (fun hc => ?_)
        · have hf := if_t hf hc
          have hK9 := K_of hf hK
          have hK9 := hX18 _ hK9
          exact hK9 _ _ _ hP hD hS (lv_sub hl [0, 1, 2, 3, 4, 5, 6] rfl)
        · have hf := if_f hf hc
          refine lv_iload_n hx hb dX6_mostKindsAlike_24 rfl (lv_at hl 1 rfl) ?_
          refine lv_iload hx hb dX6_mostKindsAlike_25 (lv_at hl 5 rfl) ?_
          refine lv_ishr hx hb dX6_mostKindsAlike_27 ?_
          refine lv_iload_n hx hb dX6_mostKindsAlike_28 rfl (lv_at hl 1 rfl) ?_
          refine lv_iload hx hb dX6_mostKindsAlike_29 (lv_at hl 7 rfl) ?_
          refine lv_ishr hx hb dX6_mostKindsAlike_31 ?_
          refine lv_iand hx hb dX6_mostKindsAlike_32 ?_
          refine lv_iconst (v := (nI 1)) hx hb dX6_mostKindsAlike_33 (ic_1) ?_
          refine lv_iand hx hb dX6_mostKindsAlike_34 ?_
          refine lv_iconst (v := (nI 1)) hx hb dX6_mostKindsAlike_35 (ic_1) ?_
          refine lv_icmp_ne (tgt := 43) hx hb dX6_mostKindsAlike_36 (by decide) (fun hc => ?_) (fun hc => ?_)
          · have hf := if_f hf hc
            refine lv_iconst (v := (nI 0)) hx hb dX6_mostKindsAlike_43 (ic_0) ?_
            exact hB44 x6 x7 (nI 0) _ hf hK _ _ _ hP hD hS (lv_sub hl [0, 1, 2, 3, 4, 5, 6, 7] rfl)
          · have hf := if_t hf hc
            refine lv_iconst (v := (nI 1)) hx hb dX6_mostKindsAlike_39 (ic_1) ?_
            refine lv_goto (tgt := 44) hx hb dX6_mostKindsAlike_40 (by decide) ?_
            exact hB44 x6 x7 (nI 1) _ hf hK _ _ _ hP hD hS (lv_sub hl [0, 1, 2, 3, 4, 5, 6, 7] rfl)
      · try dsimp only at hf
        show ∀ (H : Heap) (locs : List Loc) (ls : Array Slot), va_P G.1 vwCl (wX6 G ad ado f) H → va_D A (wX6 G ad ado f) → va_S A s.heap H locs → lv_has ls 9 [(0, .ref (ad 0)), (1, .int x1), (2, .int x2), (3, .int x3), (4, .int x4), (5, .int x5), (6, .int y6_18)] → W p l e ({ frames := 2, cells := 0, slots := 0, locals := 40 }) s m args below meth c H locs 0 0 Q (F0 m 87 ls [])
        intro H locs ls hP hD hS hl
        refine lv_iload hx hb dX6_mostKindsAlike_87 (lv_at hl 4 rfl) ?_
        refine lv_iload hx hb dX6_mostKindsAlike_89 (lv_at hl 6 rfl) ?_
        refine va_mmax hx hb (hml.trans hl.1.symm) hown (hts (.methodLink RX6 243 Lib.Math.max.name) (by decide +kernel)) (hts (.static Lib.Math.max.name) (by decide +kernel)) (hts (.initialized "java/lang/Math") (by decide +kernel)) (hts (.code Lib.Math.max.name Lib.Math.max.code 2 (some .int)) (by decide +kernel)) (Nat.le_of_ble_eq_true rfl) (Nat.le_of_ble_eq_true rfl) (Nat.zero_le _) (Nat.zero_le _) dX6_mostKindsAlike_91 ?_
        refine lv_istore (lv' := [(4, .int (if x4 < y6_18 then y6_18 else x4)), (0, .ref (ad 0)), (1, .int x1), (2, .int x2), (3, .int x3), (5, .int x5), (6, .int y6_18)]) hx hb dX6_mostKindsAlike_94 hl (by decide) rfl (fun ls hl => ?_)
        refine lv_iinc (v := (x5 + nI 1)) (lv' := [(5, .int (x5 + nI 1)), (4, .int (if x4 < y6_18 then y6_18 else x4)), (0, .ref (ad 0)), (1, .int x1), (2, .int x2), (3, .int x3), (6, .int y6_18)]) hx hb dX6_mostKindsAlike_96 hl (k := 5) rfl (ii_x 1 _) (by decide) rfl (fun ls hl => ?_)
        refine lv_goto (tgt := 6) hx hb dX6_mostKindsAlike_99 (by decide) ?_
        have hK9 := K_of hf hK
        have hK9 := hW6 _ hK9
        exact hK9 _ _ _ hP hD hS (lv_sub hl [2, 3, 4, 5, 1, 0] rfl)
  · try dsimp only at hf
    show ∀ (H : Heap) (locs : List Loc) (ls : Array Slot), va_P G.1 vwCl (wX6 G ad ado f) H → va_D A (wX6 G ad ado f) → va_S A s.heap H locs → lv_has ls 9 [(4, .int y4_6)] → W p l e ({ frames := 2, cells := 0, slots := 0, locals := 40 }) s m args below meth c H locs 0 0 Q (F0 m 102 ls [])
    intro H locs ls hP hD hS hl
    refine lv_iload hx hb dX6_mostKindsAlike_102 (lv_at hl 0 rfl) ?_
    have hK9 := K0_of hf hK
    exact hRet y4_6 _ _ _ _ hK9 dX6_mostKindsAlike_104 hP hD hS
noncomputable def p_X6_look_L56 (f : Mem) (fnow : Mem) (ftrial : Mem) (fsightings : Mem) (x2 : Int32) (x3 : Int32) (x6 : Int32) (z : Int32 × Int32 × Int32) : Option ((Int32 × Int32 × Int32) ⊕ (Int32 × Int32)) :=
  match z with
  | (x4, x5, x7) =>
    if (nI 5) ≤ x7 then
      (some (Sum.inr (x4, x5)))
    else
      (Option.bind (p_X6_mostKindsAlike f x3 x6 x7) <| fun r68 =>
       if x4 ≤ r68 then
         (some (Sum.inl (x4, x5, (x7 + nI 1))))
       else
         (some (Sum.inl (r68, (((nI 10) * x6) + x7), (x7 + nI 1)))))
noncomputable def p_X6_look_L46 (f : Mem) (fnow : Mem) (ftrial : Mem) (fsightings : Mem) (x2 : Int32) (x3 : Int32) (z : Int32 × Int32 × Int32) : Option ((Int32 × Int32 × Int32) ⊕ (Int32 × Int32)) :=
  match z with
  | (x4, x5, x6) =>
    if (nI 20) < x6 then
      (some (Sum.inr (x4, x5)))
    else
      (Option.bind (lp (p_X6_look_L56 f fnow ftrial fsightings x2 x3 x6) (x4, x5, (nI 0))) <| fun (y4_56, y5_56) =>
       some (Sum.inl (y4_56, y5_56, (x6 + nI 1))))
noncomputable def p_X6_look (f : Mem) (fnow : Mem) (ftrial : Mem) (fsightings : Mem) (x1 : Int32) (x2 : Int32) : Option (Int32 × Mem × Mem) :=
  Option.bind (p_X0_hasGoose fnow x1) <| fun r5 =>
  if r5 = 0 then
    (some ((-1 : Int32), f, ftrial))
  else
    (Option.bind (p_X6_isWithin x2 (nI 0) (nI 1)) <| fun r14 =>
     if r14 = 0 then
       (some ((-1 : Int32), f, ftrial))
     else
       (Option.bind (p_X6_kindsAsSeen f fnow ftrial fsightings x1) <| fun (r24, ftrial_24) =>
        Option.bind (p_X6_foretellByKind f fnow ftrial_24 x1) <| fun (f_30, ftrial_30) =>
        Option.bind (p_J6_bitCount_0f7a4 r24) <| fun r34 =>
        Option.bind (lp (p_X6_look_L46 f_30 fnow ftrial_30 fsightings x2 r24) (r34, (-4 : Int32), (nI 0))) <| fun (y4_46, y5_46) =>
        if x2 = 0 then
          (some (y5_46, f_30, ftrial_30))
        else
          (if y5_46 = (-4 : Int32) then
             (some (y5_46, f_30, ftrial_30))
           else
             (some (y4_46, f_30, ftrial_30)))))
set_option maxHeartbeats 4000000 in
set_option maxRecDepth 100000 in
theorem c_X6_look (l : Launch) (G : Gt) (ad : Nat → Nat) (ado : Nat → Nat → Nat) (f : Mem) (fnow : Mem) (ftrial : Mem) (fsightings : Mem) (x1 : Int32) (x2 : Int32) (r : Int32) (fz : Mem) (ftrialz : Mem) (hf : p_X6_look f fnow ftrial fsightings x1 x2 = some (r, fz, ftrialz)) (sz : Nat) : Met l yX6_look wsX6_look ({ frames := 6, cells := 0, slots := 0, locals := 155 }) (Pc0 G sz [.ref (ad 0), .int x1, .int x2] (wX6 G ad ado f ++ (wX0 G (ado 1) fnow ++ (wX0 G (ado 2) ftrial ++ (wX3 G (ado 8) fsightings))))) (Qi0 G (va_A (wX6 G ad ado f ++ (wX0 G (ado 1) fnow ++ (wX0 G (ado 2) ftrial ++ (wX3 G (ado 8) fsightings)))) sz) r (wX6 G ad ado fz ++ (wX0 G (ado 1) fnow ++ (wX0 G (ado 2) ftrialz ++ (wX3 G (ado 8) fsightings))))) 0 0 (va_A (wX6 G ad ado f ++ (wX0 G (ado 1) fnow ++ (wX0 G (ado 2) ftrial ++ (wX3 G (ado 8) fsightings)))) sz) := by
  refine metP (Qf := fun A => Qi0 G A r (wX6 G ad ado fz ++ (wX0 G (ado 1) fnow ++ (wX0 G (ado 2) ftrialz ++ (wX3 G (ado 8) fsightings))))) cX6_look 9 (some .int) (by decide) rfl (Nat.le_of_ble_eq_true rfl) ?_
  intro p e s m below meth c A ls hC hr hlocks hin hE hA hsz hP hD hS hl
  generalize hargs : ([.ref (ad 0), .int x1, .int x2] : List Value).toArray = args at hC ⊢
  obtain ⟨hx, hb, hml, hown, hts⟩ := id hC
  have hT : va_K G.1 vwCl (tyL G) s := hE.1
  have hRet : ∀ (r9 : Int32) (f9 : Mem) (ftrial9 : Mem) (H : Heap) (locs : List Loc) (ls : Array Slot) (pc : Nat) (hK9 : (r9, f9, ftrial9) = (r, fz, ftrialz)) (hdg : decode cX6_look pc = .ok (.ireturn, 1)), va_P G.1 vwCl (wX6 G ad ado f9 ++ (wX0 G (ado 1) fnow ++ (wX0 G (ado 2) ftrial9 ++ (wX3 G (ado 8) fsightings)))) H → va_D A (wX6 G ad ado f9 ++ (wX0 G (ado 1) fnow ++ (wX0 G (ado 2) ftrial9 ++ (wX3 G (ado 8) fsightings)))) → va_S A s.heap H locs → W p l e ({ frames := 6, cells := 0, slots := 0, locals := 155 }) s m args below meth c H locs 0 0 (MQ below (Qi0 G A r (wX6 G ad ado fz ++ (wX0 G (ado 1) fnow ++ (wX0 G (ado 2) ftrialz ++ (wX3 G (ado 8) fsightings))))) args s 0 0 A) (F0 m pc ls [.int r9]) := by
    intro r9 f9 ftrial9 H locs ls pc hK9 hdg hP hD hS
    cases hK9
    exact W.iret hx hb hr (fun t ht hW => ⟨⟨r, (), rfl, rfl, by rw [ht]; exact hP, hD⟩, hS.F ht⟩) hS.2.2 hdg hlocks
  generalize MQ below (Qi0 G A r (wX6 G ad ado fz ++ (wX0 G (ado 1) fnow ++ (wX0 G (ado 2) ftrialz ++ (wX3 G (ado 8) fsightings))))) args s 0 0 A = Q at hRet ⊢
  have lk12 := hts (.fieldLink RX6 12 "FeatherShares" "now" "LFeatherShares$Flock;") (by decide +kernel)
  have inX6 : ∀ w ∈ u_ws RX6 TX6 11, w ∈ wsX6_look := by decide +kernel
  have hl : lv_has ls 9 [(0, .ref (ad 0)), (1, .int x1), (2, .int x2)] := hl
  have hK0 : (r, fz, ftrialz) = (r, fz, ftrialz) := rfl
  obtain ⟨res, hres, hK⟩ : ∃ res, p_X6_look f fnow ftrial fsightings x1 x2 = some res ∧ res = (r, fz, ftrialz) := ⟨_, hf, rfl⟩
  clear hf
  have hf := hres
  clear hres
  unfold p_X6_look at hf
  refine lv_aload_n hx hb dX6_look_0 rfl (lv_at hl 0 rfl) ?_
  refine va_get (C := RX6) (T := TX6) (N := 11) (ci := 6) (v := .ref ((ado 1) 0)) hx hb hts inX6 hown hT hP 0 rfl rfl 0 (Nat.le_of_ble_eq_true rfl) lk12 (fun _ h => h) rfl dX6_look_1 ?_
  refine lv_iload_n hx hb dX6_look_4 rfl (lv_at hl 1 rfl) ?_
  obtain ⟨r5, hc5, hf⟩ := bd_e hf
  refine cl_z_ro (Wd := (wX6 G ad ado f ++ (wX0 G (ado 1) fnow ++ (wX0 G (ado 2) ftrial ++ (wX3 G (ado 8) fsightings))))) (Wc := (wX0 G (ado 1) fnow)) [4, 5, 6, 7, 8, 9, 10, 11, 12, 13, 14] rfl (va_runVN (As := [.int x1]) (rest := []) hC (c_X0_hasGoose l G (ado 1) fnow x1 r5 hc5 _) ⟨va_cnB 1 hts gX6_look_X0_hasGoose_n126 rfl rfl rfl (hE.2.2 (RX6, 126, yX0_hasGoose, "FeatherShares") (List.mem_of_getElem? (i := 10) rfl)) (hts (.initialized RX0) (by decide +kernel)) (by decide +kernel) ⟨Nat.le_of_ble_eq_true rfl, Nat.le_of_ble_eq_true rfl⟩, hts (.instanceMethod yX0_hasGoose) (by decide +kernel), hts (.selects RX0 yX0_hasGoose yX0_hasGoose) (by decide +kernel)⟩ ⟨Pc0_blind, va_recv hT hP (q0 := 4) (ci := 0) rfl rfl, fun U hU hW => Pc0_at (Wd := (wX0 G (ado 1) fnow)) hE (hP.subm [4, 5, 6, 7, 8, 9, 10, 11, 12, 13, 14] rfl) (hD.sub [4, 5, 6, 7, 8, 9, 10, 11, 12, 13, 14] (by decide) rfl) hU hW⟩ rfl rfl hl.1 rfl (lv_room (Nat.le_of_ble_eq_true rfl)) dX6_look_5 ⟨Nat.zero_le _, Nat.zero_le _⟩) hS hA hP hD (fun H locs hn5 hP hD hS => ?_)
  refine lv_if_eq (tgt := 20) hx hb dX6_look_8 (by decide) (fun hc => ?_) (fun hc => ?_)
  · have hf := if_t hf hc
    refine lv_iconst (v := (-1 : Int32)) hx hb dX6_look_20 (ic_m1) ?_
    have hK9 := K0_of hf hK
    exact hRet (-1 : Int32) f ftrial _ _ _ _ hK9 dX6_look_21 hP hD hS
  · have hf := if_f hf hc
    refine lv_iload_n hx hb dX6_look_11 rfl (lv_at hl 2 rfl) ?_
    refine lv_iconst (v := (nI 0)) hx hb dX6_look_12 (ic_0) ?_
    refine lv_iconst (v := (nI 1)) hx hb dX6_look_13 (ic_1) ?_
    obtain ⟨r14, hc14, hf⟩ := bd_e hf
    refine cl_z_ro (Wd := (wX6 G ad ado f ++ (wX0 G (ado 1) fnow ++ (wX0 G (ado 2) ftrial ++ (wX3 G (ado 8) fsightings))))) (Wc := ([] : va_W)) [] rfl (va_runS (As := [.int x2, .int (nI 0), .int (nI 1)]) (rest := []) hC (c_X6_isWithin l G x2 (nI 0) (nI 1) r14 hc14 _) (va_cwS 3 hts gX6_look_X6_isWithin rfl rfl rfl (by decide +kernel) ⟨Nat.le_of_ble_eq_true rfl, Nat.le_of_ble_eq_true rfl⟩) ⟨Pc0_blind, fun U hU hW => Pc0_at (Wd := ([] : va_W)) hE (hP.subm [] rfl) (hD.sub [] (by decide) rfl) hU hW⟩ rfl rfl hl.1 rfl (lv_room (Nat.le_of_ble_eq_true rfl)) dX6_look_14 ⟨Nat.zero_le _, Nat.zero_le _⟩) hS hA hP hD (fun H locs hn14 hP hD hS => ?_)
    refine lv_if_ne (tgt := 22) hx hb dX6_look_17 (by decide) (fun hc => ?_) (fun hc => ?_)
    · have hf := if_f hf hc
      refine lv_aload_n hx hb dX6_look_22 rfl (lv_at hl 0 rfl) ?_
      refine lv_iload_n hx hb dX6_look_23 rfl (lv_at hl 1 rfl) ?_
      obtain ⟨⟨r24, ftrial_24⟩, hc24, hf⟩ := bd_e hf
      try dsimp only at hf
      refine cl_i_same (Wd := (wX6 G ad ado f ++ (wX0 G (ado 1) fnow ++ (wX0 G (ado 2) ftrial ++ (wX3 G (ado 8) fsightings))))) (W' := (wX6 G ad ado f ++ (wX0 G (ado 1) fnow ++ (wX0 G (ado 2) ftrial_24 ++ (wX3 G (ado 8) fsightings))))) (va_runV (As := [.int x1]) (rest := []) hC (c_X6_kindsAsSeen l G ad ado f fnow ftrial fsightings x1 r24 ftrial_24 hc24 _) (cwV 1 hts gX6_look_X6_kindsAsSeen rfl rfl rfl (by decide +kernel) ⟨Nat.le_of_ble_eq_true rfl, Nat.le_of_ble_eq_true rfl⟩) ⟨Pc0_blind, va_recv hT hP (q0 := 0) (ci := 6) rfl rfl, fun U hU hW => Pc0_at hE hP hD hU hW⟩ rfl rfl hl.1 rfl (lv_room (Nat.le_of_ble_eq_true rfl)) dX6_look_24 ⟨Nat.zero_le _, Nat.zero_le _⟩) hS hA hD (fun H locs hP hD hS => ?_)
      refine lv_istore_n (lv' := [(3, .int r24), (0, .ref (ad 0)), (1, .int x1), (2, .int x2)]) hx hb dX6_look_27 rfl hl (by decide) rfl (fun ls hl => ?_)
      refine lv_aload_n hx hb dX6_look_28 rfl (lv_at hl 1 rfl) ?_
      refine lv_iload_n hx hb dX6_look_29 rfl (lv_at hl 2 rfl) ?_
      obtain ⟨⟨f_30, ftrial_30⟩, hc30, hf⟩ := bd_e hf
      try dsimp only at hf
      refine cl_v_up (Wd := (wX6 G ad ado f ++ (wX0 G (ado 1) fnow ++ (wX0 G (ado 2) ftrial_24 ++ (wX3 G (ado 8) fsightings))))) (Wc := (wX6 G ad ado f ++ (wX0 G (ado 1) fnow ++ (wX0 G (ado 2) ftrial_24)))) (W' := (wX6 G ad ado f_30 ++ (wX0 G (ado 1) fnow ++ (wX0 G (ado 2) ftrial_30)))) (W2 := (wX6 G ad ado f_30 ++ (wX0 G (ado 1) fnow ++ (wX0 G (ado 2) ftrial_30 ++ (wX3 G (ado 8) fsightings))))) (Wr := (wX3 G (ado 8) fsightings)) [0, 1, 2, 3, 4, 5, 6, 7, 8, 9, 10, 11, 12, 13, 14, 15, 16, 17, 18, 19, 20, 21, 22, 23, 24, 25] [26, 27, 28, 29, 30] rfl rfl rfl rfl rfl rfl (va_runV (As := [.int x1]) (rest := []) hC (c_X6_foretellByKind l G ad ado f fnow ftrial_24 x1 f_30 ftrial_30 hc30 _) (cwV 1 hts gX6_look_X6_foretellByKind rfl rfl rfl (by decide +kernel) ⟨Nat.le_of_ble_eq_true rfl, Nat.le_of_ble_eq_true rfl⟩) ⟨Pc0_blind, va_recv hT hP (q0 := 0) (ci := 6) rfl rfl, fun U hU hW => Pc0_at (Wd := (wX6 G ad ado f ++ (wX0 G (ado 1) fnow ++ (wX0 G (ado 2) ftrial_24)))) hE (hP.subm [0, 1, 2, 3, 4, 5, 6, 7, 8, 9, 10, 11, 12, 13, 14, 15, 16, 17, 18, 19, 20, 21, 22, 23, 24, 25] rfl) (hD.sub [0, 1, 2, 3, 4, 5, 6, 7, 8, 9, 10, 11, 12, 13, 14, 15, 16, 17, 18, 19, 20, 21, 22, 23, 24, 25] (by decide) rfl) hU hW⟩ rfl rfl hl.1 rfl (lv_room (Nat.le_of_ble_eq_true rfl)) dX6_look_30 ⟨Nat.zero_le _, Nat.zero_le _⟩) hS hA hP hD (fun H locs hP hD hS => ?_)
      refine lv_iload_n hx hb dX6_look_33 rfl (lv_at hl 0 rfl) ?_
      obtain ⟨r34, hc34, hf⟩ := bd_e hf
      refine cl_i_ro (Wd := (wX6 G ad ado f_30 ++ (wX0 G (ado 1) fnow ++ (wX0 G (ado 2) ftrial_30 ++ (wX3 G (ado 8) fsightings))))) (Wc := ([] : va_W)) [] rfl (va_runS (As := [.int r24]) (rest := []) hC (c_J6_bitCount_0f7a4 l G r24 r34 hc34 _) (va_cwS 1 hts gX6_look_J6_bitCount_0f7a4 rfl rfl rfl (by decide +kernel) ⟨Nat.le_of_ble_eq_true rfl, Nat.le_of_ble_eq_true rfl⟩) ⟨Pc0_blind, fun U hU hW => Pc0_at (Wd := ([] : va_W)) hE (hP.subm [] rfl) (hD.sub [] (by decide) rfl) hU hW⟩ rfl rfl hl.1 rfl (lv_room (Nat.le_of_ble_eq_true rfl)) dX6_look_34 ⟨Nat.zero_le _, Nat.zero_le _⟩) hS hA hP hD (fun H locs hP hD hS => ?_)
      refine lv_istore (lv' := [(4, .int r34), (3, .int r24), (0, .ref (ad 0)), (1, .int x1), (2, .int x2)]) hx hb dX6_look_37 hl (by decide) rfl (fun ls hl => ?_)
      refine lv_bipush (v := (-4 : Int32)) hx hb dX6_look_39 (bi_m4) ?_
      refine lv_istore (lv' := [(5, .int (-4 : Int32)), (4, .int r34), (3, .int r24), (0, .ref (ad 0)), (1, .int x1), (2, .int x2)]) hx hb dX6_look_41 hl (by decide) rfl (fun ls hl => ?_)
      refine lv_iconst (v := (nI 0)) hx hb dX6_look_43 (ic_0) ?_
      refine lv_istore (lv' := [(6, .int (nI 0)), (5, .int (-4 : Int32)), (4, .int r34), (3, .int r24), (0, .ref (ad 0)), (1, .int x1), (2, .int x2)]) hx hb dX6_look_44 hl (by decide) rfl (fun ls hl => ?_)
      obtain ⟨⟨y4_46, y5_46⟩, hlp, hf⟩ := bd_e hf
      refine lp_W1 (p_X6_look_L46 f_30 fnow ftrial_30 fsightings x2 r24) (fun z => match z with | (x4, x5, x6) => ∀ (H : Heap) (locs : List Loc) (ls : Array Slot), va_P G.1 vwCl (wX6 G ad ado f_30 ++ (wX0 G (ado 1) fnow ++ (wX0 G (ado 2) ftrial_30 ++ (wX3 G (ado 8) fsightings)))) H → va_D A (wX6 G ad ado f_30 ++ (wX0 G (ado 1) fnow ++ (wX0 G (ado 2) ftrial_30 ++ (wX3 G (ado 8) fsightings)))) → va_S A s.heap H locs → lv_has ls 9 [(0, .ref (ad 0)), (2, .int x2), (3, .int r24), (4, .int x4), (5, .int x5), (6, .int x6)] → W p l e ({ frames := 6, cells := 0, slots := 0, locals := 155 }) s m args below meth c H locs 0 0 Q (F0 m 46 ls [])) (fun z => match z with | (y4_46, y5_46) => ∀ (H : Heap) (locs : List Loc) (ls : Array Slot), va_P G.1 vwCl (wX6 G ad ado f_30 ++ (wX0 G (ado 1) fnow ++ (wX0 G (ado 2) ftrial_30 ++ (wX3 G (ado 8) fsightings)))) H → va_D A (wX6 G ad ado f_30 ++ (wX0 G (ado 1) fnow ++ (wX0 G (ado 2) ftrial_30 ++ (wX3 G (ado 8) fsightings)))) → va_S A s.heap H locs → lv_has ls 9 [(2, .int x2), (4, .int y4_46), (5, .int y5_46)] → W p l e ({ frames := 6, cells := 0, slots := 0, locals := 155 }) s m args below meth c H locs 0 0 Q (F0 m 106 ls [])) ?_ hlp ?_ _ _ _ hP hD hS (lv_sub hl [4, 6, 3, 2, 1, 0] rfl)
      · clear hlp hf hK hP hD hS hl
        generalize f_30 = f
        generalize ftrial_30 = ftrial
        generalize r24 = x3
        intro K46 hW46 hX46 
        rintro ⟨x4, x5, x6⟩ res hf hK H locs ls hP hD hS hl
        unfold p_X6_look_L46 at hf
        dsimp only at hf
        refine lv_iload hx hb dX6_look_46 (lv_at hl 5 rfl) ?_
        refine lv_bipush (v := (nI 20)) hx hb dX6_look_48 (bi_20) ?_
        refine lv_icmp_gt (tgt := 106) hx hb dX6_look_50 (by decide) (fun hc => ?_) (fun hc => ?_)
        · have hf := if_t hf hc
          have hK9 := K_of hf hK
          have hK9 := hX46 _ hK9
          exact hK9 _ _ _ hP hD hS (lv_sub hl [1, 3, 4] rfl)
        · have hf := if_f hf hc
          refine lv_iconst (v := (nI 0)) hx hb dX6_look_53 (ic_0) ?_
          refine lv_istore (lv' := [(7, .int (nI 0)), (0, .ref (ad 0)), (2, .int x2), (3, .int x3), (4, .int x4), (5, .int x5), (6, .int x6)]) hx hb dX6_look_54 hl (by decide) rfl (fun ls hl => ?_)
          obtain ⟨⟨y4_56, y5_56⟩, hlp, hf⟩ := bd_e hf
          refine lp_W1 (p_X6_look_L56 f fnow ftrial fsightings x2 x3 x6) (fun z => match z with | (x4, x5, x7) => ∀ (H : Heap) (locs : List Loc) (ls : Array Slot), va_P G.1 vwCl (wX6 G ad ado f ++ (wX0 G (ado 1) fnow ++ (wX0 G (ado 2) ftrial ++ (wX3 G (ado 8) fsightings)))) H → va_D A (wX6 G ad ado f ++ (wX0 G (ado 1) fnow ++ (wX0 G (ado 2) ftrial ++ (wX3 G (ado 8) fsightings)))) → va_S A s.heap H locs → lv_has ls 9 [(0, .ref (ad 0)), (2, .int x2), (3, .int x3), (4, .int x4), (5, .int x5), (6, .int x6), (7, .int x7)] → W p l e ({ frames := 6, cells := 0, slots := 0, locals := 155 }) s m args below meth c H locs 0 0 Q (F0 m 56 ls [])) (fun z => match z with | (y4_56, y5_56) => ∀ (H : Heap) (locs : List Loc) (ls : Array Slot), va_P G.1 vwCl (wX6 G ad ado f ++ (wX0 G (ado 1) fnow ++ (wX0 G (ado 2) ftrial ++ (wX3 G (ado 8) fsightings)))) H → va_D A (wX6 G ad ado f ++ (wX0 G (ado 1) fnow ++ (wX0 G (ado 2) ftrial ++ (wX3 G (ado 8) fsightings)))) → va_S A s.heap H locs → lv_has ls 9 [(0, .ref (ad 0)), (2, .int x2), (3, .int x3), (4, .int y4_56), (5, .int y5_56), (6, .int x6)] → W p l e ({ frames := 6, cells := 0, slots := 0, locals := 155 }) s m args below meth c H locs 0 0 Q (F0 m 100 ls [])) ?_ hlp ?_ _ _ _ hP hD hS (lv_sub hl [1, 2, 3, 4, 5, 6, 0] rfl)
          · clear hlp hf hK hP hD hS hl
            intro K56 hW56 hX56 
            rintro ⟨x4, x5, x7⟩ res hf hK H locs ls hP hD hS hl
            unfold p_X6_look_L56 at hf
            dsimp only at hf
            refine lv_iload hx hb dX6_look_56 (lv_at hl 6 rfl) ?_
            refine lv_iconst (v := (nI 5)) hx hb dX6_look_58 (ic_5) ?_
            refine lv_icmp_ge (tgt := 100) hx hb dX6_look_59 (by decide) (fun hc => ?_) (fun hc => ?_)
            · have hf := if_t hf hc
              have hK9 := K_of hf hK
              have hK9 := hX56 _ hK9
              exact hK9 _ _ _ hP hD hS (lv_sub hl [0, 1, 2, 3, 4, 5] rfl)
            · have hf := if_f hf hc
              refine lv_aload_n hx hb dX6_look_62 rfl (lv_at hl 0 rfl) ?_
              refine lv_iload_n hx hb dX6_look_63 rfl (lv_at hl 2 rfl) ?_
              refine lv_iload hx hb dX6_look_64 (lv_at hl 5 rfl) ?_
              refine lv_iload hx hb dX6_look_66 (lv_at hl 6 rfl) ?_
              obtain ⟨r68, hc68, hf⟩ := bd_e hf
              refine cl_i_ro (Wd := (wX6 G ad ado f ++ (wX0 G (ado 1) fnow ++ (wX0 G (ado 2) ftrial ++ (wX3 G (ado 8) fsightings))))) (Wc := (wX6 G ad ado f)) [0, 1, 2, 3] rfl (va_runV (As := [.int x3, .int x6, .int x7]) (rest := []) hC (c_X6_mostKindsAlike l G ad ado f x3 x6 x7 r68 hc68 _) (cwV 3 hts gX6_look_X6_mostKindsAlike rfl rfl rfl (by decide +kernel) ⟨Nat.le_of_ble_eq_true rfl, Nat.le_of_ble_eq_true rfl⟩) ⟨Pc0_blind, va_recv hT hP (q0 := 0) (ci := 6) rfl rfl, fun U hU hW => Pc0_at (Wd := (wX6 G ad ado f)) hE (hP.subm [0, 1, 2, 3] rfl) (hD.sub [0, 1, 2, 3] (by decide) rfl) hU hW⟩ rfl rfl hl.1 rfl (lv_room (Nat.le_of_ble_eq_true rfl)) dX6_look_68 ⟨Nat.zero_le _, Nat.zero_le _⟩) hS hA hP hD (fun H locs hP hD hS => ?_)
              refine lv_istore (lv' := [(8, .int r68), (0, .ref (ad 0)), (2, .int x2), (3, .int x3), (4, .int x4), (5, .int x5), (6, .int x6), (7, .int x7)]) hx hb dX6_look_71 hl (by decide) rfl (fun ls hl => ?_)
              refine lv_iload hx hb dX6_look_73 (lv_at hl 0 rfl) ?_
              refine lv_iload hx hb dX6_look_75 (lv_at hl 4 rfl) ?_
              refine lv_icmp_ge (tgt := 94) hx hb dX6_look_77 (by decide) (fun hc => ?_) (fun hc => ?_)
              · have hf := if_t hf hc
                refine lv_iinc (v := (x7 + nI 1)) (lv' := [(7, .int (x7 + nI 1)), (8, .int r68), (0, .ref (ad 0)), (2, .int x2), (3, .int x3), (4, .int x4), (5, .int x5), (6, .int x6)]) hx hb dX6_look_94 hl (k := 7) rfl (ii_x 1 _) (by decide) rfl (fun ls hl => ?_)
                refine lv_goto (tgt := 56) hx hb dX6_look_97 (by decide) ?_
                have hK9 := K_of hf hK
                have hK9 := hW56 _ hK9
                exact hK9 _ _ _ hP hD hS (lv_sub hl [2, 3, 4, 5, 6, 7, 0] rfl)
              · have hf := if_f hf hc
                refine lv_iload hx hb dX6_look_80 (lv_at hl 0 rfl) ?_
                refine lv_istore (lv' := [(4, .int r68), (8, .int r68), (0, .ref (ad 0)), (2, .int x2), (3, .int x3), (5, .int x5), (6, .int x6), (7, .int x7)]) hx hb dX6_look_82 hl (by decide) rfl (fun ls hl => ?_)
                refine lv_bipush (v := (nI 10)) hx hb dX6_look_84 (bi_10) ?_
                refine lv_iload hx hb dX6_look_86 (lv_at hl 6 rfl) ?_
                refine lv_imul hx hb dX6_look_88 ?_
                refine lv_iload hx hb dX6_look_89 (lv_at hl 7 rfl) ?_
                refine lv_iadd hx hb dX6_look_91 ?_
                refine lv_istore (lv' := [(5, .int (((nI 10) * x6) + x7)), (4, .int r68), (8, .int r68), (0, .ref (ad 0)), (2, .int x2), (3, .int x3), (6, .int x6), (7, .int x7)]) hx hb dX6_look_92 hl (by decide) rfl (fun ls hl => ?_)
                refine lv_iinc (v := (x7 + nI 1)) (lv' := [(7, .int (x7 + nI 1)), (5, .int (((nI 10) * x6) + x7)), (4, .int r68), (8, .int r68), (0, .ref (ad 0)), (2, .int x2), (3, .int x3), (6, .int x6)]) hx hb dX6_look_94 hl (k := 7) rfl (ii_x 1 _) (by decide) rfl (fun ls hl => ?_)
                refine lv_goto (tgt := 56) hx hb dX6_look_97 (by decide) ?_
                have hK9 := K_of hf hK
                have hK9 := hW56 _ hK9
                exact hK9 _ _ _ hP hD hS (lv_sub hl [4, 5, 6, 2, 1, 7, 0] rfl)
          · try dsimp only at hf
            show ∀ (H : Heap) (locs : List Loc) (ls : Array Slot), va_P G.1 vwCl (wX6 G ad ado f ++ (wX0 G (ado 1) fnow ++ (wX0 G (ado 2) ftrial ++ (wX3 G (ado 8) fsightings)))) H → va_D A (wX6 G ad ado f ++ (wX0 G (ado 1) fnow ++ (wX0 G (ado 2) ftrial ++ (wX3 G (ado 8) fsightings)))) → va_S A s.heap H locs → lv_has ls 9 [(0, .ref (ad 0)), (2, .int x2), (3, .int x3), (4, .int y4_56), (5, .int y5_56), (6, .int x6)] → W p l e ({ frames := 6, cells := 0, slots := 0, locals := 155 }) s m args below meth c H locs 0 0 Q (F0 m 100 ls [])
            intro H locs ls hP hD hS hl
            refine lv_iinc (v := (x6 + nI 1)) (lv' := [(6, .int (x6 + nI 1)), (0, .ref (ad 0)), (2, .int x2), (3, .int x3), (4, .int y4_56), (5, .int y5_56)]) hx hb dX6_look_100 hl (k := 5) rfl (ii_x 1 _) (by decide) rfl (fun ls hl => ?_)
            refine lv_goto (tgt := 46) hx hb dX6_look_103 (by decide) ?_
            have hK9 := K_of hf hK
            have hK9 := hW46 _ hK9
            exact hK9 _ _ _ hP hD hS (lv_sub hl [1, 2, 3, 4, 5, 0] rfl)
      · try dsimp only at hf
        show ∀ (H : Heap) (locs : List Loc) (ls : Array Slot), va_P G.1 vwCl (wX6 G ad ado f_30 ++ (wX0 G (ado 1) fnow ++ (wX0 G (ado 2) ftrial_30 ++ (wX3 G (ado 8) fsightings)))) H → va_D A (wX6 G ad ado f_30 ++ (wX0 G (ado 1) fnow ++ (wX0 G (ado 2) ftrial_30 ++ (wX3 G (ado 8) fsightings)))) → va_S A s.heap H locs → lv_has ls 9 [(2, .int x2), (4, .int y4_46), (5, .int y5_46)] → W p l e ({ frames := 6, cells := 0, slots := 0, locals := 155 }) s m args below meth c H locs 0 0 Q (F0 m 106 ls [])
        intro H locs ls hP hD hS hl
        refine lv_iload_n hx hb dX6_look_106 rfl (lv_at hl 0 rfl) ?_
        refine lv_if_eq (tgt := 117) hx hb dX6_look_107 (by decide) (fun hc => ?_) (fun hc => ?_)
        · have hf := if_t hf hc
          refine lv_iload hx hb dX6_look_117 (lv_at hl 2 rfl) ?_
          refine lv_goto (tgt := 124) hx hb dX6_look_119 (by decide) ?_
          have hK9 := K0_of hf hK
          exact hRet y5_46 f_30 ftrial_30 _ _ _ _ hK9 dX6_look_124 hP hD hS
        · have hf := if_f hf hc
          refine lv_iload hx hb dX6_look_110 (lv_at hl 2 rfl) ?_
          refine lv_bipush (v := (-4 : Int32)) hx hb dX6_look_112 (bi_m4) ?_
          refine lv_icmp_ne (tgt := 122) hx hb dX6_look_114 (by decide) (fun hc => ?_) (fun hc => ?_)
          · have hf := if_f hf hc
            refine lv_iload hx hb dX6_look_122 (lv_at hl 1 rfl) ?_
            have hK9 := K0_of hf hK
            exact hRet y4_46 f_30 ftrial_30 _ _ _ _ hK9 dX6_look_124 hP hD hS
          · have hf := if_t hf hc
            refine lv_iload hx hb dX6_look_117 (lv_at hl 2 rfl) ?_
            refine lv_goto (tgt := 124) hx hb dX6_look_119 (by decide) ?_
            have hK9 := K0_of hf hK
            exact hRet y5_46 f_30 ftrial_30 _ _ _ _ hK9 dX6_look_124 hP hD hS
    · have hf := if_t hf hc
      refine lv_iconst (v := (-1 : Int32)) hx hb dX6_look_20 (ic_m1) ?_
      have hK9 := K0_of hf hK
      exact hRet (-1 : Int32) f ftrial _ _ _ _ hK9 dX6_look_21 hP hD hS
