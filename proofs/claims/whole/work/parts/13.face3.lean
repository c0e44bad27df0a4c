noncomputable def p_X6_turn_L35 (f : Mem) (fnow : Mem) (x1 : Int32) (x2 : Int32) (z : Int32 × Mem) : Option ((Int32 × Mem) ⊕ (Mem ⊕ (Int32 × Mem))) :=
  match z with
  | (x3, ftrial_) =>
    if (nI 60) < x3 then
      (some (Sum.inr (Sum.inl ftrial_)))
    else
      (Option.bind (p_X0_passWeek ftrial_) <| fun (r45, ftrial_45) =>
       Option.bind (p_X0_eggOwner ftrial_45 x1) <| fun r54 =>
       if r54 = x2 then
         (some (Sum.inl ((x3 + nI 1), ftrial_45)))
       else
         (some (Sum.inr (Sum.inr (x3, ftrial_45)))))
noncomputable def p_X6_turn (f : Mem) (fnow : Mem) (ftrial : Mem) (x1 : Int32) : Option (Int32 × Mem) :=
  Option.bind (p_X0_hasGoose fnow x1) <| fun r5 =>
  if r5 = 0 then
    (some ((-1 : Int32), ftrial))
  else
    (Option.bind (p_X0_eggOwner fnow x1) <| fun r18 =>
     Option.bind (p_X0_copyFrom ftrial fnow) <| fun ftrial_30 =>
     Option.bind (lp (p_X6_turn_L35 f fnow x1 r18) ((nI 1), ftrial_30)) <| Sum.elim (fun ftrial_35 =>
       some ((-4 : Int32), ftrial_35)) some)
set_option maxHeartbeats 4000000 in
set_option maxRecDepth 100000 in
theorem c_X6_turn (l : Launch) (G : Gt) (ad : Nat → Nat) (ado : Nat → Nat → Nat) (f : Mem) (fnow : Mem) (ftrial : Mem) (x1 : Int32) (r : Int32) (ftrialz : Mem) (hf : p_X6_turn f fnow ftrial x1 = some (r, ftrialz)) (sz : Nat) : Met l yX6_turn wsX6_turn ({ frames := 4, cells := 0, slots := 0, locals := 110 }) (Pc0 G sz [.ref (ad 0), .int x1] (wX6 G ad ado f ++ (wX0 G (ado 1) fnow ++ (wX0 G (ado 2) ftrial)))) (Qi0 G (va_A (wX6 G ad ado f ++ (wX0 G (ado 1) fnow ++ (wX0 G (ado 2) ftrial))) sz) r (wX6 G ad ado f ++ (wX0 G (ado 1) fnow ++ (wX0 G (ado 2) ftrialz)))) 0 0 (va_A (wX6 G ad ado f ++ (wX0 G (ado 1) fnow ++ (wX0 G (ado 2) ftrial))) sz) := by
  refine metP (Qf := fun A => Qi0 G A r (wX6 G ad ado f ++ (wX0 G (ado 1) fnow ++ (wX0 G (ado 2) ftrialz)))) cX6_turn 4 (some .int) (by decide) rfl (Nat.le_of_ble_eq_true rfl) ?_
  intro p e s m below meth c A ls hC hr hlocks hin hE hA hsz hP hD hS hl
  generalize hargs : ([.ref (ad 0), .int x1] : List Value).toArray = args at hC ⊢
  obtain ⟨hx, hb, hml, hown, hts⟩ := id hC
  have hT : va_K G.1 vwCl (tyL G) s := hE.1
  have hRet : ∀ (r9 : Int32) (ftrial9 : Mem) (H : Heap) (locs : List Loc) (ls : Array Slot) (pc : Nat) (hK9 : (r9, ftrial9) = (r, ftrialz)) (hdg : decode cX6_turn pc = .ok (.ireturn, 1)), va_P G.1 vwCl (wX6 G ad ado f ++ (wX0 G (ado 1) fnow ++ (wX0 G (ado 2) ftrial9))) H → va_D A (wX6 G ad ado f ++ (wX0 G (ado 1) fnow ++ (wX0 G (ado 2) ftrial9))) → va_S A s.heap H locs → W p l e ({ frames := 4, cells := 0, slots := 0, locals := 110 }) s m args below meth c H locs 0 0 (MQ below (Qi0 G A r (wX6 G ad ado f ++ (wX0 G (ado 1) fnow ++ (wX0 G (ado 2) ftrialz)))) args s 0 0 A) (F0 m pc ls [.int r9]) := by
    intro r9 ftrial9 H locs ls pc hK9 hdg hP hD hS
    cases hK9
    exact W.iret hx hb hr (fun t ht hW => ⟨⟨r, (), rfl, rfl, by rw [ht]; exact hP, hD⟩, hS.F ht⟩) hS.2.2 hdg hlocks
  generalize MQ below (Qi0 G A r (wX6 G ad ado f ++ (wX0 G (ado 1) fnow ++ (wX0 G (ado 2) ftrialz)))) args s 0 0 A = Q at hRet ⊢
  have lk12 := hts (.fieldLink RX6 12 "FeatherShares" "now" "LFeatherShares$Flock;") (by decide +kernel)
  have inX6 : ∀ w ∈ u_ws RX6 TX6 11, w ∈ wsX6_turn := by decide +kernel
  have lk16 := hts (.fieldLink RX6 16 "FeatherShares" "trial" "LFeatherShares$Flock;") (by decide +kernel)
  have hl : lv_has ls 4 [(0, .ref (ad 0)), (1, .int x1)] := hl
  have hK0 : (r, ftrialz) = (r, ftrialz) := rfl
  obtain ⟨res, hres, hK⟩ : ∃ res, p_X6_turn f fnow ftrial x1 = some res ∧ res = (r, ftrialz) := ⟨_, hf, rfl⟩
  clear hf
  have hf := hres
  clear hres
  unfold p_X6_turn at hf
  refine lv_aload_n hx hb dX6_turn_0 rfl (lv_at hl 0 rfl) ?_
  refine va_get (C := RX6) (T := TX6) (N := 11) (ci := 6) (v := .ref ((ado 1) 0)) hx hb hts inX6 hown hT hP 0 rfl rfl 0 (Nat.le_of_ble_eq_true rfl) lk12 (fun _ h => h) rfl dX6_turn_1 ?_
  refine lv_iload_n hx hb dX6_turn_4 rfl (lv_at hl 1 rfl) ?_
  obtain ⟨r5, hc5, hf⟩ := bd_e hf
  refine cl_z_ro (Wd := (wX6 G ad ado f ++ (wX0 G (ado 1) fnow ++ (wX0 G (ado 2) ftrial)))) (Wc := (wX0 G (ado 1) fnow)) [4, 5, 6, 7, 8, 9, 10, 11, 12, 13, 14] rfl (va_runVN (As := [.int x1]) (rest := []) hC (c_X0_hasGoose l G (ado 1) fnow x1 r5 hc5 _) ⟨va_cnB 1 hts gX6_turn_X0_hasGoose_n126 rfl rfl rfl (hE.2.2 (RX6, 126, yX0_hasGoose, "FeatherShares") (List.mem_of_getElem? (i := 10) rfl)) (hts (.initialized RX0) (by decide +kernel)) (by decide +kernel) ⟨Nat.le_of_ble_eq_true rfl, Nat.le_of_ble_eq_true rfl⟩, hts (.instanceMethod yX0_hasGoose) (by decide +kernel), hts (.selects RX0 yX0_hasGoose yX0_hasGoose) (by decide +kernel)⟩ ⟨Pc0_blind, va_recv hT hP (q0 := 4) (ci := 0) rfl rfl, fun U hU hW => Pc0_at (Wd := (wX0 G (ado 1) fnow)) hE (hP.subm [4, 5, 6, 7, 8, 9, 10, 11, 12, 13, 14] rfl) (hD.sub [4, 5, 6, 7, 8, 9, 10, 11, 12, 13, 14] (by decide) rfl) hU hW⟩ rfl rfl hl.1 rfl (lv_room (Nat.le_of_ble_eq_true rfl)) dX6_turn_5 ⟨Nat.zero_le _, Nat.zero_le _⟩) hS hA hP hD (fun H locs hn5 hP hD hS => ?_)
  refine lv_if_ne (tgt := 13) hx hb dX6_turn_8 (by decide) (fun hc => ?_) (fun hc => ?_)
  · have hf := if_f hf hc
    refine lv_aload_n hx hb dX6_turn_13 rfl (lv_at hl 0 rfl) ?_
    refine va_get (C := RX6) (T := TX6) (N := 11) (ci := 6) (v := .ref ((ado 1) 0)) hx hb hts inX6 hown hT hP 0 rfl rfl 0 (Nat.le_of_ble_eq_true rfl) lk12 (fun _ h => h) rfl dX6_turn_14 ?_
    refine lv_iload_n hx hb dX6_turn_17 rfl (lv_at hl 1 rfl) ?_
    obtain ⟨r18, hc18, hf⟩ := bd_e hf
    refine cl_i_ro (Wd := (wX6 G ad ado f ++ (wX0 G (ado 1) fnow ++ (wX0 G (ado 2) ftrial)))) (Wc := (wX0 G (ado 1) fnow)) [4, 5, 6, 7, 8, 9, 10, 11, 12, 13, 14] rfl (va_runVN (As := [.int x1]) (rest := []) hC (c_X0_eggOwner l G (ado 1) fnow x1 r18 hc18 _) ⟨va_cnB 1 hts gX6_turn_X0_eggOwner_n142 rfl rfl rfl (hE.2.2 (RX6, 142, yX0_eggOwner, "FeatherShares") (List.mem_of_getElem? (i := 12) rfl)) (hts (.initialized RX0) (by decide +kernel)) (by decide +kernel) ⟨Nat.le_of_ble_eq_true rfl, Nat.le_of_ble_eq_true rfl⟩, hts (.instanceMethod yX0_eggOwner) (by decide +kernel), hts (.selects RX0 yX0_eggOwner yX0_eggOwner) (by decide +kernel)⟩ ⟨Pc0_blind, va_recv hT hP (q0 := 4) (ci := 0) rfl rfl, fun U hU hW => Pc0_at (Wd := (wX0 G (ado 1) fnow)) hE (hP.subm [4, 5, 6, 7, 8, 9, 10, 11, 12, 13, 14] rfl) (hD.sub [4, 5, 6, 7, 8, 9, 10, 11, 12, 13, 14] (by decide) rfl) hU hW⟩ rfl rfl hl.1 rfl (lv_room (Nat.le_of_ble_eq_true rfl)) dX6_turn_18 ⟨Nat.zero_le _, Nat.zero_le _⟩) hS hA hP hD (fun H locs hP hD hS => ?_)
    refine lv_istore_n (lv' := [(2, .int r18), (0, .ref (ad 0)), (1, .int x1)]) hx hb dX6_turn_21 rfl hl (by decide) rfl (fun ls hl => ?_)
    refine lv_aload_n hx hb dX6_turn_22 rfl (lv_at hl 1 rfl) ?_
    refine va_get (C := RX6) (T := TX6) (N := 11) (ci := 6) (v := .ref ((ado 2) 0)) hx hb hts inX6 hown hT hP 0 rfl rfl 1 (Nat.le_of_ble_eq_true rfl) lk16 (fun _ h => h) rfl dX6_turn_23 ?_
    refine lv_aload_n hx hb dX6_turn_26 rfl (lv_at hl 1 rfl) ?_
    refine va_get (C := RX6) (T := TX6) (N := 11) (ci := 6) (v := .ref ((ado 1) 0)) hx hb hts inX6 hown hT hP 0 rfl rfl 0 (Nat.le_of_ble_eq_true rfl) lk12 (fun _ h => h) rfl dX6_turn_27 ?_
    obtain ⟨ftrial_30, hc30, hf⟩ := bd_e hf
    refine cl_v_up (Wd := (wX6 G ad ado f ++ (wX0 G (ado 1) fnow ++ (wX0 G (ado 2) ftrial)))) (Wc := (wX0 G (ado 2) ftrial ++ (wX0 G (ado 1) fnow))) (W' := (wX0 G (ado 2) ftrial_30 ++ (wX0 G (ado 1) fnow))) (W2 := (wX6 G ad ado f ++ (wX0 G (ado 1) fnow ++ (wX0 G (ado 2) ftrial_30)))) (Wr := (wX6 G ad ado f)) [15, 16, 17, 18, 19, 20, 21, 22, 23, 24, 25, 4, 5, 6, 7, 8, 9, 10, 11, 12, 13, 14] [0, 1, 2, 3] rfl rfl rfl rfl rfl rfl (va_runVN (As := [.ref ((ado 1) 0)]) (rest := []) hC (c_X0_copyFrom l G (ado 2) (ado 1) ftrial fnow ftrial_30 hc30 _) ⟨va_cnB 1 hts gX6_turn_X0_copyFrom_n93 rfl rfl rfl (hE.2.2 (RX6, 93, yX0_copyFrom, "FeatherShares") (List.mem_of_getElem? (i := 8) rfl)) (hts (.initialized RX0) (by decide +kernel)) (by decide +kernel) ⟨Nat.le_of_ble_eq_true rfl, Nat.le_of_ble_eq_true rfl⟩, hts (.instanceMethod yX0_copyFrom) (by decide +kernel), hts (.selects RX0 yX0_copyFrom yX0_copyFrom) (by decide +kernel)⟩ ⟨Pc0_blind, va_recv hT hP (q0 := 15) (ci := 0) rfl rfl, fun U hU hW => Pc0_at (Wd := (wX0 G (ado 2) ftrial ++ (wX0 G (ado 1) fnow))) hE (hP.subm [15, 16, 17, 18, 19, 20, 21, 22, 23, 24, 25, 4, 5, 6, 7, 8, 9, 10, 11, 12, 13, 14] rfl) (hD.sub [15, 16, 17, 18, 19, 20, 21, 22, 23, 24, 25, 4, 5, 6, 7, 8, 9, 10, 11, 12, 13, 14] (by decide) rfl) hU hW⟩ rfl rfl hl.1 rfl (lv_room (Nat.le_of_ble_eq_true rfl)) dX6_turn_30 ⟨Nat.zero_le _, Nat.zero_le _⟩) hS hA hP hD (fun H locs hP hD hS => ?_)
    refine lv_iconst (v := (nI 1)) hx hb dX6_turn_33 (ic_1) ?_
    refine lv_istore_n (lv' := [(3, .int (nI 1)), (2, .int r18), (0, .ref (ad 0)), (1, .int x1)]) hx hb dX6_turn_34 rfl hl (by decide) rfl (fun ls hl => ?_)
    obtain ⟨ze, hlp, hf⟩ := bd_e hf
    refine lp_W2 (p_X6_turn_L35 f fnow x1 r18) (fun z => match z with | (x3, ftrial_) => ∀ (H : Heap) (locs : List Loc) (ls : Array Slot), va_P G.1 vwCl (wX6 G ad ado f ++ (wX0 G (ado 1) fnow ++ (wX0 G (ado 2) ftrial_))) H → va_D A (wX6 G ad ado f ++ (wX0 G (ado 1) fnow ++ (wX0 G (ado 2) ftrial_))) → va_S A s.heap H locs → lv_has ls 4 [(0, .ref (ad 0)), (1, .int x1), (2, .int r18), (3, .int x3)] → W p l e ({ frames := 4, cells := 0, slots := 0, locals := 110 }) s m args below meth c H locs 0 0 Q (F0 m 35 ls [])) (fun (ftrial_35 : Mem) => ∀ (H : Heap) (locs : List Loc) (ls : Array Slot), va_P G.1 vwCl (wX6 G ad ado f ++ (wX0 G (ado 1) fnow ++ (wX0 G (ado 2) ftrial_35))) H → va_D A (wX6 G ad ado f ++ (wX0 G (ado 1) fnow ++ (wX0 G (ado 2) ftrial_35))) → va_S A s.heap H locs → lv_has ls 4 [] → W p l e ({ frames := 4, cells := 0, slots := 0, locals := 110 }) s m args below meth c H locs 0 0 Q (F0 m 69 ls [])) (fun z => z = (r, ftrialz)) ?_ hlp ?_ _ _ _ hP hD hS (lv_sub hl [2, 3, 1, 0] rfl)
    · clear hlp hf hK hP hD hS hl
      generalize r18 = x2
      intro K35 hW35 hX35 hO35
      rintro ⟨x3, ftrial_⟩ res hf hK H locs ls hP hD hS hl
      unfold p_X6_turn_L35 at hf
      dsimp only at hf
      refine lv_iload_n hx hb dX6_turn_35 rfl (lv_at hl 3 rfl) ?_
      refine lv_bipush (v := (nI 60)) hx hb dX6_turn_36 (bi_60) ?_
      refine lv_icmp_gt (tgt := 69) hx hb dX6_turn_38 (by decide) (fun hc => ?_) (fun hc => ?_)
      · have hf := if_t hf hc
        have hK9 := K_of hf hK
        have hK9 := hX35 _ hK9
        exact hK9 _ _ _ hP hD hS (lv_sub hl [] rfl)
      · have hf := if_f hf hc
        refine lv_aload_n hx hb dX6_turn_41 rfl (lv_at hl 0 rfl) ?_
        refine va_get (C := RX6) (T := TX6) (N := 11) (ci := 6) (v := .ref ((ado 2) 0)) hx hb hts inX6 hown hT hP 0 rfl rfl 1 (Nat.le_of_ble_eq_true rfl) lk16 (fun _ h => h) rfl dX6_turn_42 ?_
        obtain ⟨⟨r45, ftrial_45⟩, hc45, hf⟩ := bd_e hf
        try dsimp only at hf
        refine cl_i_up (Wd := (wX6 G ad ado f ++ (wX0 G (ado 1) fnow ++ (wX0 G (ado 2) ftrial_)))) (Wc := (wX0 G (ado 2) ftrial_)) (W' := (wX0 G (ado 2) ftrial_45)) (W2 := (wX6 G ad ado f ++ (wX0 G (ado 1) fnow ++ (wX0 G (ado 2) ftrial_45)))) (Wr := (wX6 G ad ado f ++ (wX0 G (ado 1) fnow))) [15, 16, 17, 18, 19, 20, 21, 22, 23, 24, 25] [0, 1, 2, 3, 4, 5, 6, 7, 8, 9, 10, 11, 12, 13, 14] rfl rfl rfl rfl rfl rfl (va_runVN (As := []) (rest := []) hC (c_X0_passWeek l G (ado 2) ftrial_ r45 ftrial_45 hc45 _) ⟨va_cnB 0 hts gX6_turn_X0_passWeek_n207 rfl rfl rfl (hE.2.2 (RX6, 207, yX0_passWeek, "FeatherShares") (List.mem_of_getElem? (i := 25) rfl)) (hts (.initialized RX0) (by decide +kernel)) (by decide +kernel) ⟨Nat.le_of_ble_eq_true rfl, Nat.le_of_ble_eq_true rfl⟩, hts (.instanceMethod yX0_passWeek) (by decide +kernel), hts (.selects RX0 yX0_passWeek yX0_passWeek) (by decide +kernel)⟩ ⟨Pc0_blind, va_recv hT hP (q0 := 15) (ci := 0) rfl rfl, fun U hU hW => Pc0_at (Wd := (wX0 G (ado 2) ftrial_)) hE (hP.subm [15, 16, 17, 18, 19, 20, 21, 22, 23, 24, 25] rfl) (hD.sub [15, 16, 17, 18, 19, 20, 21, 22, 23, 24, 25] (by decide) rfl) hU hW⟩ rfl rfl hl.1 rfl (lv_room (Nat.le_of_ble_eq_true rfl)) dX6_turn_45 ⟨Nat.zero_le _, Nat.zero_le _⟩) hS hA hP hD (fun H locs hP hD hS => ?_)
        refine lv_pop hx hb dX6_turn_48 rfl ?_
        refine lv_aload_n hx hb dX6_turn_49 rfl (lv_at hl 0 rfl) ?_
        refine va_get (C := RX6) (T := TX6) (N := 11) (ci := 6) (v := .ref ((ado 2) 0)) hx hb hts inX6 hown hT hP 0 rfl rfl 1 (Nat.le_of_ble_eq_true rfl) lk16 (fun _ h => h) rfl dX6_turn_50 ?_
        refine lv_iload_n hx hb dX6_turn_53 rfl (lv_at hl 1 rfl) ?_
        obtain ⟨r54, hc54, hf⟩ := bd_e hf
        refine cl_i_ro (Wd := (wX6 G ad ado f ++ (wX0 G (ado 1) fnow ++ (wX0 G (ado 2) ftrial_45)))) (Wc := (wX0 G (ado 2) ftrial_45)) [15, 16, 17, 18, 19, 20, 21, 22, 23, 24, 25] rfl (va_runVN (As := [.int x1]) (rest := []) hC (c_X0_eggOwner l G (ado 2) ftrial_45 x1 r54 hc54 _) ⟨va_cnB 1 hts gX6_turn_X0_eggOwner_n142 rfl rfl rfl (hE.2.2 (RX6, 142, yX0_eggOwner, "FeatherShares") (List.mem_of_getElem? (i := 12) rfl)) (hts (.initialized RX0) (by decide +kernel)) (by decide +kernel) ⟨Nat.le_of_ble_eq_true rfl, Nat.le_of_ble_eq_true rfl⟩, hts (.instanceMethod yX0_eggOwner) (by decide +kernel), hts (.selects RX0 yX0_eggOwner yX0_eggOwner) (by decide +kernel)⟩ ⟨Pc0_blind, va_recv hT hP (q0 := 15) (ci := 0) rfl rfl, fun U hU hW => Pc0_at (Wd := (wX0 G (ado 2) ftrial_45)) hE (hP.subm [15, 16, 17, 18, 19, 20, 21, 22, 23, 24, 25] rfl) (hD.sub [15, 16, 17, 18, 19, 20, 21, 22, 23, 24, 25] (by decide) rfl) hU hW⟩ rfl rfl hl.1 rfl (lv_room (Nat.le_of_ble_eq_true rfl)) dX6_turn_54 ⟨Nat.zero_le _, Nat.zero_le _⟩) hS hA hP hD (fun H locs hP hD hS => ?_)
        refine lv_iload_n hx hb dX6_turn_57 rfl (lv_at hl 2 rfl) ?_
        refine lv_icmp_eq (tgt := 63) hx hb dX6_turn_58 (by decide) (fun hc => ?_) (fun hc => ?_)
        · have hf := if_t hf hc
          refine lv_iinc (v := (x3 + nI 1)) (lv' := [(3, .int (x3 + nI 1)), (0, .ref (ad 0)), (1, .int x1), (2, .int x2)]) hx hb dX6_turn_63 hl (k := 3) rfl (ii_x 1 _) (by decide) rfl (fun ls hl => ?_)
          refine lv_goto (tgt := 35) hx hb dX6_turn_66 (by decide) ?_
          have hK9 := K_of hf hK
          have hK9 := hW35 _ hK9
          exact hK9 _ _ _ hP hD hS (lv_sub hl [1, 2, 3, 0] rfl)
        · have hf := if_f hf hc
          refine lv_iload_n hx hb dX6_turn_61 rfl (lv_at hl 3 rfl) ?_
          have hK9 := K_of hf hK
          have hK9 := hO35 _ hK9
          exact hRet x3 ftrial_45 _ _ _ _ hK9 dX6_turn_62 hP hD hS
    · rcases ze with ftrial_35 | zo
      · try simp only [Sum.elim_inl] at hf
        try dsimp only at hf
        show ∀ (H : Heap) (locs : List Loc) (ls : Array Slot), va_P G.1 vwCl (wX6 G ad ado f ++ (wX0 G (ado 1) fnow ++ (wX0 G (ado 2) ftrial_35))) H → va_D A (wX6 G ad ado f ++ (wX0 G (ado 1) fnow ++ (wX0 G (ado 2) ftrial_35))) → va_S A s.heap H locs → lv_has ls 4 [] → W p l e ({ frames := 4, cells := 0, slots := 0, locals := 110 }) s m args below meth c H locs 0 0 Q (F0 m 69 ls [])
        intro H locs ls hP hD hS hl
        refine lv_bipush (v := (-4 : Int32)) hx hb dX6_turn_69 (bi_m4) ?_
        have hK9 := K0_of hf hK
        exact hRet (-4 : Int32) ftrial_35 _ _ _ _ hK9 dX6_turn_71 hP hD hS
      · have hK9 := K0_of (show some zo = some _ from hf) hK
        exact hK9
  · have hf := if_t hf hc
    refine lv_iconst (v := (-1 : Int32)) hx hb dX6_turn_11 (ic_m1) ?_
    have hK9 := K0_of hf hK
    exact hRet (-1 : Int32) ftrial _ _ _ _ hK9 dX6_turn_12 hP hD hS
noncomputable def p_X6_need_L68 (f : Mem) (fnow : Mem) (x1 : Int32) (x2 : Int32) (x3 : Int32) (x4 : Int32) (z : Int32 × Mem) : Option ((Int32 × Mem) ⊕ (Mem ⊕ ((Int32 × Mem) ⊕ (Mem ⊕ (Int32 × Mem))))) :=
  match z with
  | (x5, ftrial_) =>
    if (nI 5) ≤ x5 then
      (some (Sum.inr (Sum.inl ftrial_)))
    else
      (if x5 = x1 then
         (some (Sum.inl ((x5 + nI 1), ftrial_)))
       else
         (Option.bind (p_X0_canTrade ftrial_ x1 x5 x2 x4) <| fun r90 =>
          if r90 = 0 then
            (some (Sum.inl ((x5 + nI 1), ftrial_)))
          else
            (Option.bind (p_X0_wouldGetEgg ftrial_ x1 x5 x2 x4) <| fun (r106, ftrial_106) =>
             if r106 = 0 then
               (some (Sum.inl ((x5 + nI 1), ftrial_106)))
             else
               (if x3 = 0 then
                  (some (Sum.inr (Sum.inr (Sum.inr (Sum.inr ((((nI 10) * x5) + x4), ftrial_106))))))
                else
                  (gd (inb x2 3) <|
                   some (Sum.inr (Sum.inr (Sum.inr (Sum.inr ((x4 * (fnow 3 x2.toNatClampNeg)), ftrial_106))))))))))
noncomputable def p_X6_need_L58 (f : Mem) (fnow : Mem) (x1 : Int32) (x2 : Int32) (x3 : Int32) (z : Int32 × Mem) : Option ((Int32 × Mem) ⊕ (Mem ⊕ (Int32 × Mem))) :=
  match z with
  | (x4, ftrial_) =>
    if (nI 9) < x4 then
      (some (Sum.inr (Sum.inl ftrial_)))
    else
      (Option.bind (lp (p_X6_need_L68 f fnow x1 x2 x3 x4) ((nI 0), ftrial_)) <| Sum.elim (fun ftrial_68 =>
         some (Sum.inl ((x4 + nI 1), ftrial_68))) some)
noncomputable def p_X6_need (f : Mem) (fnow : Mem) (ftrial : Mem) (x1 : Int32) (x2 : Int32) (x3 : Int32) : Option (Int32 × Mem) :=
  Option.bind (p_X6_isOwner x1) <| fun r1 =>
  if r1 = 0 then
    (some ((-1 : Int32), ftrial))
  else
    (Option.bind (p_X0_hasGoose fnow x2) <| fun r12 =>
     if r12 = 0 then
       (some ((-1 : Int32), ftrial))
     else
       (Option.bind (p_X6_isWithin x3 (nI 0) (nI 1)) <| fun r21 =>
        if r21 = 0 then
          (some ((-1 : Int32), ftrial))
        else
          (Option.bind (p_X0_eggOwner fnow x2) <| fun r34 =>
           if r34 = x1 then
             (some ((-2 : Int32), ftrial))
           else
             (Option.bind (p_X0_copyFrom ftrial fnow) <| fun ftrial_52 =>
              Option.bind (lp (p_X6_need_L58 f fnow x1 x2 x3) ((nI 1), ftrial_52)) <| Sum.elim (fun ftrial_58 =>
                some ((-4 : Int32), ftrial_58)) some))))
set_option maxHeartbeats 4000000 in
set_option maxRecDepth 100000 in
theorem c_X6_need (l : Launch) (G : Gt) (ad : Nat → Nat) (ado : Nat → Nat → Nat) (f : Mem) (fnow : Mem) (ftrial : Mem) (x1 : Int32) (x2 : Int32) (x3 : Int32) (r : Int32) (ftrialz : Mem) (hf : p_X6_need f fnow ftrial x1 x2 x3 = some (r, ftrialz)) (sz : Nat) : Met l yX6_need wsX6_need ({ frames := 4, cells := 0, slots := 0, locals := 83 }) (Pc0 G sz [.ref (ad 0), .int x1, .int x2, .int x3] (wX6 G ad ado f ++ (wX0 G (ado 1) fnow ++ (wX0 G (ado 2) ftrial)))) (Qi0 G (va_A (wX6 G ad ado f ++ (wX0 G (ado 1) fnow ++ (wX0 G (ado 2) ftrial))) sz) r (wX6 G ad ado f ++ (wX0 G (ado 1) fnow ++ (wX0 G (ado 2) ftrialz)))) 0 0 (va_A (wX6 G ad ado f ++ (wX0 G (ado 1) fnow ++ (wX0 G (ado 2) ftrial))) sz) := by
  refine metP (Qf := fun A => Qi0 G A r (wX6 G ad ado f ++ (wX0 G (ado 1) fnow ++ (wX0 G (ado 2) ftrialz)))) cX6_need 6 (some .int) (by decide) rfl (Nat.le_of_ble_eq_true rfl) ?_
  intro p e s m below meth c A ls hC hr hlocks hin hE hA hsz hP hD hS hl
  generalize hargs : ([.ref (ad 0), .int x1, .int x2, .int x3] : List Value).toArray = args at hC ⊢
  obtain ⟨hx, hb, hml, hown, hts⟩ := id hC
  have hT : va_K G.1 vwCl (tyL G) s := hE.1
  have hRet : ∀ (r9 : Int32) (ftrial9 : Mem) (H : Heap) (locs : List Loc) (ls : Array Slot) (pc : Nat) (hK9 : (r9, ftrial9) = (r, ftrialz)) (hdg : decode cX6_need pc = .ok (.ireturn, 1)), va_P G.1 vwCl (wX6 G ad ado f ++ (wX0 G (ado 1) fnow ++ (wX0 G (ado 2) ftrial9))) H → va_D A (wX6 G ad ado f ++ (wX0 G (ado 1) fnow ++ (wX0 G (ado 2) ftrial9))) → va_S A s.heap H locs → W p l e ({ frames := 4, cells := 0, slots := 0, locals := 83 }) s m args below meth c H locs 0 0 (MQ below (Qi0 G A r (wX6 G ad ado f ++ (wX0 G (ado 1) fnow ++ (wX0 G (ado 2) ftrialz)))) args s 0 0 A) (F0 m pc ls [.int r9]) := by
    intro r9 ftrial9 H locs ls pc hK9 hdg hP hD hS
    cases hK9
    exact W.iret hx hb hr (fun t ht hW => ⟨⟨r, (), rfl, rfl, by rw [ht]; exact hP, hD⟩, hS.F ht⟩) hS.2.2 hdg hlocks
  generalize MQ below (Qi0 G A r (wX6 G ad ado f ++ (wX0 G (ado 1) fnow ++ (wX0 G (ado 2) ftrialz)))) args s 0 0 A = Q at hRet ⊢
  have lk12 := hts (.fieldLink RX6 12 "FeatherShares" "now" "LFeatherShares$Flock;") (by decide +kernel)
  have inX6 : ∀ w ∈ u_ws RX6 TX6 11, w ∈ wsX6_need := by decide +kernel
  have lk16 := hts (.fieldLink RX6 16 "FeatherShares" "trial" "LFeatherShares$Flock;") (by decide +kernel)
  have lk135 := va_Nw.use (A := args) rfl (hE.2.1 (RX6, 135, "FeatherShares$Flock", "price", "[I", "FeatherShares") (List.mem_of_getElem? (i := 13) rfl))
  have inX0 : ∀ w ∈ u_ws RX0 TX0 13, w ∈ wsX6_need := by decide +kernel
  have hl : lv_has ls 6 [(0, .ref (ad 0)), (1, .int x1), (2, .int x2), (3, .int x3)] := hl
  have hK0 : (r, ftrialz) = (r, ftrialz) := rfl
  obtain ⟨res, hres, hK⟩ : ∃ res, p_X6_need f fnow ftrial x1 x2 x3 = some res ∧ res = (r, ftrialz) := ⟨_, hf, rfl⟩
  clear hf
  have hf := hres
  clear hres
  unfold p_X6_need at hf
  refine lv_iload_n hx hb dX6_need_0 rfl (lv_at hl 1 rfl) ?_
  obtain ⟨r1, hc1, hf⟩ := bd_e hf
  refine cl_z_ro (Wd := (wX6 G ad ado f ++ (wX0 G (ado 1) fnow ++ (wX0 G (ado 2) ftrial)))) (Wc := ([] : va_W)) [] rfl (va_runS (As := [.int x1]) (rest := []) hC (c_X6_isOwner l G x1 r1 hc1 _) (va_cwS 1 hts gX6_need_X6_isOwner rfl rfl rfl (by decide +kernel) ⟨Nat.le_of_ble_eq_true rfl, Nat.le_of_ble_eq_true rfl⟩) ⟨Pc0_blind, fun U hU hW => Pc0_at (Wd := ([] : va_W)) hE (hP.subm [] rfl) (hD.sub [] (by decide) rfl) hU hW⟩ rfl rfl hl.1 rfl (lv_room (Nat.le_of_ble_eq_true rfl)) dX6_need_1 ⟨Nat.zero_le _, Nat.zero_le _⟩) hS hA hP hD (fun H locs hn1 hP hD hS => ?_)
  refine lv_if_eq (tgt := 27) hx hb dX6_need_4 (by decide) (fun hc => ?_) (fun hc => ?_)
  · have hf := if_t hf hc
    refine lv_iconst (v := (-1 : Int32)) hx hb dX6_need_27 (ic_m1) ?_
    have hK9 := K0_of hf hK
    exact hRet (-1 : Int32) ftrial _ _ _ _ hK9 dX6_need_28 hP hD hS
  · have hf := if_f hf hc
    refine lv_aload_n hx hb dX6_need_7 rfl (lv_at hl 0 rfl) ?_
    refine va_get (C := RX6) (T := TX6) (N := 11) (ci := 6) (v := .ref ((ado 1) 0)) hx hb hts inX6 hown hT hP 0 rfl rfl 0 (Nat.le_of_ble_eq_true rfl) lk12 (fun _ h => h) rfl dX6_need_8 ?_
    refine lv_iload_n hx hb dX6_need_11 rfl (lv_at hl 2 rfl) ?_
    obtain ⟨r12, hc12, hf⟩ := bd_e hf
    refine cl_z_ro (Wd := (wX6 G ad ado f ++ (wX0 G (ado 1) fnow ++ (wX0 G (ado 2) ftrial)))) (Wc := (wX0 G (ado 1) fnow)) [4, 5, 6, 7, 8, 9, 10, 11, 12, 13, 14] rfl (va_runVN (As := [.int x2]) (rest := []) hC (c_X0_hasGoose l G (ado 1) fnow x2 r12 hc12 _) ⟨va_cnB 1 hts gX6_need_X0_hasGoose_n126 rfl rfl rfl (hE.2.2 (RX6, 126, yX0_hasGoose, "FeatherShares") (List.mem_of_getElem? (i := 10) rfl)) (hts (.initialized RX0) (by decide +kernel)) (by decide +kernel) ⟨Nat.le_of_ble_eq_true rfl, Nat.le_of_ble_eq_true rfl⟩, hts (.instanceMethod yX0_hasGoose) (by decide +kernel), hts (.selects RX0 yX0_hasGoose yX0_hasGoose) (by decide +kernel)⟩ ⟨Pc0_blind, va_recv hT hP (q0 := 4) (ci := 0) rfl rfl, fun U hU hW => Pc0_at (Wd := (wX0 G (ado 1) fnow)) hE (hP.subm [4, 5, 6, 7, 8, 9, 10, 11, 12, 13, 14] rfl) (hD.sub [4, 5, 6, 7, 8, 9, 10, 11, 12, 13, 14] (by decide) rfl) hU hW⟩ rfl rfl hl.1 rfl (lv_room (Nat.le_of_ble_eq_true rfl)) dX6_need_12 ⟨Nat.zero_le _, Nat.zero_le _⟩) hS hA hP hD (fun H locs hn12 hP hD hS => ?_)
    refine lv_if_eq (tgt := 27) hx hb dX6_need_15 (by decide) (fun hc => ?_) (fun hc => ?_)
    · have hf := if_t hf hc
      refine lv_iconst (v := (-1 : Int32)) hx hb dX6_need_27 (ic_m1) ?_
      have hK9 := K0_of hf hK
      exact hRet (-1 : Int32) ftrial _ _ _ _ hK9 dX6_need_28 hP hD hS
    · have hf := if_f hf hc
      refine lv_iload_n hx hb dX6_need_18 rfl (lv_at hl 3 rfl) ?_
      refine lv_iconst (v := (nI 0)) hx hb dX6_need_19 (ic_0) ?_
      refine lv_iconst (v := (nI 1)) hx hb dX6_need_20 (ic_1) ?_
      obtain ⟨r21, hc21, hf⟩ := bd_e hf
      refine cl_z_ro (Wd := (wX6 G ad ado f ++ (wX0 G (ado 1) fnow ++ (wX0 G (ado 2) ftrial)))) (Wc := ([] : va_W)) [] rfl (va_runS (As := [.int x3, .int (nI 0), .int (nI 1)]) (rest := []) hC (c_X6_isWithin l G x3 (nI 0) (nI 1) r21 hc21 _) (va_cwS 3 hts gX6_need_X6_isWithin rfl rfl rfl (by decide +kernel) ⟨Nat.le_of_ble_eq_true rfl, Nat.le_of_ble_eq_true rfl⟩) ⟨Pc0_blind, fun U hU hW => Pc0_at (Wd := ([] : va_W)) hE (hP.subm [] rfl) (hD.sub [] (by decide) rfl) hU hW⟩ rfl rfl hl.1 rfl (lv_room (Nat.le_of_ble_eq_true rfl)) dX6_need_21 ⟨Nat.zero_le _, Nat.zero_le _⟩) hS hA hP hD (fun H locs hn21 hP hD hS => ?_)
      refine lv_if_ne (tgt := 29) hx hb dX6_need_24 (by decide) (fun hc => ?_) (fun hc => ?_)
      · have hf := if_f hf hc
        refine lv_aload_n hx hb dX6_need_29 rfl (lv_at hl 0 rfl) ?_
        refine va_get (C := RX6) (T := TX6) (N := 11) (ci := 6) (v := .ref ((ado 1) 0)) hx hb hts inX6 hown hT hP 0 rfl rfl 0 (Nat.le_of_ble_eq_true rfl) lk12 (fun _ h => h) rfl dX6_need_30 ?_
        refine lv_iload_n hx hb dX6_need_33 rfl (lv_at hl 2 rfl) ?_
        obtain ⟨r34, hc34, hf⟩ := bd_e hf
        refine cl_i_ro (Wd := (wX6 G ad ado f ++ (wX0 G (ado 1) fnow ++ (wX0 G (ado 2) ftrial)))) (Wc := (wX0 G (ado 1) fnow)) [4, 5, 6, 7, 8, 9, 10, 11, 12, 13, 14] rfl (va_runVN (As := [.int x2]) (rest := []) hC (c_X0_eggOwner l G (ado 1) fnow x2 r34 hc34 _) ⟨va_cnB 1 hts gX6_need_X0_eggOwner_n142 rfl rfl rfl (hE.2.2 (RX6, 142, yX0_eggOwner, "FeatherShares") (List.mem_of_getElem? (i := 12) rfl)) (hts (.initialized RX0) (by decide +kernel)) (by decide +kernel) ⟨Nat.le_of_ble_eq_true rfl, Nat.le_of_ble_eq_true rfl⟩, hts (.instanceMethod yX0_eggOwner) (by decide +kernel), hts (.selects RX0 yX0_eggOwner yX0_eggOwner) (by decide +kernel)⟩ ⟨Pc0_blind, va_recv hT hP (q0 := 4) (ci := 0) rfl rfl, fun U hU hW => Pc0_at (Wd := (wX0 G (ado 1) fnow)) hE (hP.subm [4, 5, 6, 7, 8, 9, 10, 11, 12, 13, 14] rfl) (hD.sub [4, 5, 6, 7, 8, 9, 10, 11, 12, 13, 14] (by decide) rfl) hU hW⟩ rfl rfl hl.1 rfl (lv_room (Nat.le_of_ble_eq_true rfl)) dX6_need_34 ⟨Nat.zero_le _, Nat.zero_le _⟩) hS hA hP hD (fun H locs hP hD hS => ?_)
        refine lv_iload_n hx hb dX6_need_37 rfl (lv_at hl 1 rfl) ?_
        refine lv_icmp_ne (tgt := 44) hx hb dX6_need_38 (by decide) (fun hc => ?_) (fun hc => ?_)
        · have hf := if_f hf hc
          refine lv_aload_n hx hb dX6_need_44 rfl (lv_at hl 0 rfl) ?_
          refine va_get (C := RX6) (T := TX6) (N := 11) (ci := 6) (v := .ref ((ado 2) 0)) hx hb hts inX6 hown hT hP 0 rfl rfl 1 (Nat.le_of_ble_eq_true rfl) lk16 (fun _ h => h) rfl dX6_need_45 ?_
          refine lv_aload_n hx hb dX6_need_48 rfl (lv_at hl 0 rfl) ?_
          refine va_get (C := RX6) (T := TX6) (N := 11) (ci := 6) (v := .ref ((ado 1) 0)) hx hb hts inX6 hown hT hP 0 rfl rfl 0 (Nat.le_of_ble_eq_true rfl) lk12 (fun _ h => h) rfl dX6_need_49 ?_
          obtain ⟨ftrial_52, hc52, hf⟩ := bd_e hf
          refine cl_v_up (Wd := (wX6 G ad ado f ++ (wX0 G (ado 1) fnow ++ (wX0 G (ado 2) ftrial)))) (Wc := (wX0 G (ado 2) ftrial ++ (wX0 G (ado 1) fnow))) (W' := (wX0 G (ado 2) ftrial_52 ++ (wX0 G (ado 1) fnow))) (W2 := (wX6 G ad ado f ++ (wX0 G (ado 1) fnow ++ (wX0 G (ado 2) ftrial_52)))) (Wr := (wX6 G ad ado f)) [15, 16, 17, 18, 19, 20, 21, 22, 23, 24, 25, 4, 5, 6, 7, 8, 9, 10, 11, 12, 13, 14] [0, 1, 2, 3] rfl rfl rfl rfl rfl rfl (va_runVN (As := [.ref ((ado 1) 0)]) (rest := []) hC (c_X0_copyFrom l G (ado 2) (ado 1) ftrial fnow ftrial_52 hc52 _) ⟨va_cnB 1 hts gX6_need_X0_copyFrom_n93 rfl rfl rfl (hE.2.2 (RX6, 93, yX0_copyFrom, "FeatherShares") (List.mem_of_getElem? (i := 8) rfl)) (hts (.initialized RX0) (by decide +kernel)) (by decide +kernel) ⟨Nat.le_of_ble_eq_true rfl, Nat.le_of_ble_eq_true rfl⟩, hts (.instanceMethod yX0_copyFrom) (by decide +kernel), hts (.selects RX0 yX0_copyFrom yX0_copyFrom) (by decide +kernel)⟩ ⟨Pc0_blind, va_recv hT hP (q0 := 15) (ci := 0) rfl rfl, fun U hU hW => Pc0_at (Wd := (wX0 G (ado 2) ftrial ++ (wX0 G (ado 1) fnow))) hE (hP.subm [15, 16, 17, 18, 19, 20, 21, 22, 23, 24, 25, 4, 5, 6, 7, 8, 9, 10, 11, 12, 13, 14] rfl) (hD.sub [15, 16, 17, 18, 19, 20, 21, 22, 23, 24, 25, 4, 5, 6, 7, 8, 9, 10, 11, 12, 13, 14] (by decide) rfl) hU hW⟩ rfl rfl hl.1 rfl (lv_room (Nat.le_of_ble_eq_true rfl)) dX6_need_52 ⟨Nat.zero_le _, Nat.zero_le _⟩) hS hA hP hD (fun H locs hP hD hS => ?_)
          refine lv_iconst (v := (nI 1)) hx hb dX6_need_55 (ic_1) ?_
          refine lv_istore (lv' := [(4, .int (nI 1)), (0, .ref (ad 0)), (1, .int x1), (2, .int x2), (3, .int x3)]) hx hb dX6_need_56 hl (by decide) rfl (fun ls hl => ?_)
          obtain ⟨ze, hlp, hf⟩ := bd_e hf
          refine lp_W2 (p_X6_need_L58 f fnow x1 x2 x3) (fun z => match z with | (x4, ftrial_) => ∀ (H : Heap) (locs : List Loc) (ls : Array Slot), va_P G.1 vwCl (wX6 G ad ado f ++ (wX0 G (ado 1) fnow ++ (wX0 G (ado 2) ftrial_))) H → va_D A (wX6 G ad ado f ++ (wX0 G (ado 1) fnow ++ (wX0 G (ado 2) ftrial_))) → va_S A s.heap H locs → lv_has ls 6 [(0, .ref (ad 0)), (1, .int x1), (2, .int x2), (3, .int x3), (4, .int x4)] → W p l e ({ frames := 4, cells := 0, slots := 0, locals := 83 }) s m args below meth c H locs 0 0 Q (F0 m 58 ls [])) (fun (ftrial_58 : Mem) => ∀ (H : Heap) (locs : List Loc) (ls : Array Slot), va_P G.1 vwCl (wX6 G ad ado f ++ (wX0 G (ado 1) fnow ++ (wX0 G (ado 2) ftrial_58))) H → va_D A (wX6 G ad ado f ++ (wX0 G (ado 1) fnow ++ (wX0 G (ado 2) ftrial_58))) → va_S A s.heap H locs → lv_has ls 6 [] → W p l e ({ frames := 4, cells := 0, slots := 0, locals := 83 }) s m args below meth c H locs 0 0 Q (F0 m 152 ls [])) (fun z => z = (r, ftrialz)) ?_ hlp ?_ _ _ _ hP hD hS (lv_sub hl [1, 2, 3, 4, 0] rfl)
          · clear hlp hf hK hP hD hS hl
            intro K58 hW58 hX58 hO58
            rintro ⟨x4, ftrial_⟩ res hf hK H locs ls hP hD hS hl
            unfold p_X6_need_L58 at hf
            dsimp only at hf
            refine lv_iload hx hb dX6_need_58 (lv_at hl 4 rfl) ?_
            refine lv_bipush (v := (nI 9)) hx hb dX6_need_60 (bi_9) ?_
            refine lv_icmp_gt (tgt := 152) hx hb dX6_need_62 (by decide) (fun hc => ?_) (fun hc => ?_)
            · have hf := if_t hf hc
              have hK9 := K_of hf hK
              have hK9 := hX58 _ hK9
              exact hK9 _ _ _ hP hD hS (lv_sub hl [] rfl)
            · have hf := if_f hf hc
              refine lv_iconst (v := (nI 0)) hx hb dX6_need_65 (ic_0) ?_
              refine lv_istore (lv' := [(5, .int (nI 0)), (0, .ref (ad 0)), (1, .int x1), (2, .int x2), (3, .int x3), (4, .int x4)]) hx hb dX6_need_66 hl (by decide) rfl (fun ls hl => ?_)
              obtain ⟨ze, hlp, hf⟩ := bd_e hf
              refine lp_W2 (p_X6_need_L68 f fnow x1 x2 x3 x4) (fun z => match z with | (x5, ftrial_) => ∀ (H : Heap) (locs : List Loc) (ls : Array Slot), va_P G.1 vwCl (wX6 G ad ado f ++ (wX0 G (ado 1) fnow ++ (wX0 G (ado 2) ftrial_))) H → va_D A (wX6 G ad ado f ++ (wX0 G (ado 1) fnow ++ (wX0 G (ado 2) ftrial_))) → va_S A s.heap H locs → lv_has ls 6 [(0, .ref (ad 0)), (1, .int x1), (2, .int x2), (3, .int x3), (4, .int x4), (5, .int x5)] → W p l e ({ frames := 4, cells := 0, slots := 0, locals := 83 }) s m args below meth c H locs 0 0 Q (F0 m 68 ls [])) (fun (ftrial_68 : Mem) => ∀ (H : Heap) (locs : List Loc) (ls : Array Slot), va_P G.1 vwCl (wX6 G ad ado f ++ (wX0 G (ado 1) fnow ++ (wX0 G (ado 2) ftrial_68))) H → va_D A (wX6 G ad ado f ++ (wX0 G (ado 1) fnow ++ (wX0 G (ado 2) ftrial_68))) → va_S A s.heap H locs → lv_has ls 6 [(0, .ref (ad 0)), (1, .int x1), (2, .int x2), (3, .int x3), (4, .int x4)] → W p l e ({ frames := 4, cells := 0, slots := 0, locals := 83 }) s m args below meth c H locs 0 0 Q (F0 m 146 ls [])) (K58) ?_ hlp ?_ _ _ _ hP hD hS (lv_sub hl [1, 2, 3, 4, 5, 0] rfl)
              · clear hlp hf hK hP hD hS hl
                intro K68 hW68 hX68 hO68
                rintro ⟨x5, ftrial_⟩ res hf hK H locs ls hP hD hS hl
                unfold p_X6_need_L68 at hf
                dsimp only at hf
                refine lv_iload hx hb dX6_need_68 (lv_at hl 5 rfl) ?_
                refine lv_iconst (v := (nI 5)) hx hb dX6_need_70 (ic_5) ?_
                refine lv_icmp_ge (tgt := 146) hx hb dX6_need_71 (by decide) (fun hc => ?_) (fun hc => ?_)
                · have hf := if_t hf hc
                  have hK9 := K_of hf hK
                  have hK9 := hX68 _ hK9
                  exact hK9 _ _ _ hP hD hS (lv_sub hl [0, 1, 2, 3, 4] rfl)
                · have hf := if_f hf hc
                  refine lv_iload hx hb dX6_need_74 (lv_at hl 5 rfl) ?_
                  refine lv_iload_n hx hb dX6_need_76 rfl (lv_at hl 1 rfl) ?_
                  refine lv_icmp_eq (tgt := 140) hx hb dX6_need_77 (by decide) (fun hc => ?_) (fun hc => ?_)
                  · have hf := if_t hf hc
                    refine lv_iinc (v := (x5 + nI 1)) (lv' := [(5, .int (x5 + nI 1)), (0, .ref (ad 0)), (1, .int x1), (2, .int x2), (3, .int x3), (4, .int x4)]) hx hb dX6_need_140 hl (k := 5) rfl (ii_x 1 _) (by decide) rfl (fun ls hl => ?_)
                    refine lv_goto (tgt := 68) hx hb dX6_need_143 (by decide) ?_
                    have hK9 := K_of hf hK
                    have hK9 := hW68 _ hK9
                    exact hK9 _ _ _ hP hD hS (lv_sub hl [1, 2, 3, 4, 5, 0] rfl)
                  · have hf := if_f hf hc
                    refine lv_aload_n hx hb dX6_need_80 rfl (lv_at hl 0 rfl) ?_
                    refine va_get (C := RX6) (T := TX6) (N := 11) (ci := 6) (v := .ref ((ado 2) 0)) hx hb hts inX6 hown hT hP 0 rfl rfl 1 (Nat.le_of_ble_eq_true rfl) lk16 (fun _ h => h) rfl dX6_need_81 ?_
                    refine lv_iload_n hx hb dX6_need_84 rfl (lv_at hl 1 rfl) ?_
                    refine lv_iload hx hb dX6_need_85 (lv_at hl 5 rfl) ?_
                    refine lv_iload_n hx hb dX6_need_87 rfl (lv_at hl 2 rfl) ?_
                    refine lv_iload hx hb dX6_need_88 (lv_at hl 4 rfl) ?_
                    obtain ⟨r90, hc90, hf⟩ := bd_e hf
                    refine cl_z_ro (Wd := (wX6 G ad ado f ++ (wX0 G (ado 1) fnow ++ (wX0 G (ado 2) ftrial_)))) (Wc := (wX0 G (ado 2) ftrial_)) [15, 16, 17, 18, 19, 20, 21, 22, 23, 24, 25] rfl (va_runVN (As := [.int x1, .int x5, .int x2, .int x4]) (rest := []) hC (c_X0_canTrade l G (ado 2) ftrial_ x1 x5 x2 x4 r90 hc90 _) ⟨va_cnB 4 hts gX6_need_X0_canTrade_n181 rfl rfl rfl (hE.2.2 (RX6, 181, yX0_canTrade, "FeatherShares") (List.mem_of_getElem? (i := 17) rfl)) (hts (.initialized RX0) (by decide +kernel)) (by decide +kernel) ⟨Nat.le_of_ble_eq_true rfl, Nat.le_of_ble_eq_true rfl⟩, hts (.instanceMethod yX0_canTrade) (by decide +kernel), hts (.selects RX0 yX0_canTrade yX0_canTrade) (by decide +kernel)⟩ ⟨Pc0_blind, va_recv hT hP (q0 := 15) (ci := 0) rfl rfl, fun U hU hW => Pc0_at (Wd := (wX0 G (ado 2) ftrial_)) hE (hP.subm [15, 16, 17, 18, 19, 20, 21, 22, 23, 24, 25] rfl) (hD.sub [15, 16, 17, 18, 19, 20, 21, 22, 23, 24, 25] (by decide) rfl) hU hW⟩ rfl rfl hl.1 rfl (lv_room (Nat.le_of_ble_eq_true rfl)) dX6_need_90 ⟨Nat.zero_le _, Nat.zero_le _⟩) hS hA hP hD (fun H locs hn90 hP hD hS => ?_)
                    refine lv_if_eq (tgt := 140) hx hb dX6_need_93 (by decide) (fun hc => ?_) (fun hc => ?_)
                    · have hf := if_t hf hc
                      refine lv_iinc (v := (x5 + nI 1)) (lv' := [(5, .int (x5 + nI 1)), (0, .ref (ad 0)), (1, .int x1), (2, .int x2), (3, .int x3), (4, .int x4)]) hx hb dX6_need_140 hl (k := 5) rfl (ii_x 1 _) (by decide) rfl (fun ls hl => ?_)
                      refine lv_goto (tgt := 68) hx hb dX6_need_143 (by decide) ?_
                      have hK9 := K_of hf hK
                      have hK9 := hW68 _ hK9
                      exact hK9 _ _ _ hP hD hS (lv_sub hl [1, 2, 3, 4, 5, 0] rfl)
                    · have hf := if_f hf hc
                      refine lv_aload_n hx hb dX6_need_96 rfl (lv_at hl 0 rfl) ?_
                      refine va_get (C := RX6) (T := TX6) (N := 11) (ci := 6) (v := .ref ((ado 2) 0)) hx hb hts inX6 hown hT hP 0 rfl rfl 1 (Nat.le_of_ble_eq_true rfl) lk16 (fun _ h => h) rfl dX6_need_97 ?_
                      refine lv_iload_n hx hb dX6_need_100 rfl (lv_at hl 1 rfl) ?_
                      refine lv_iload hx hb dX6_need_101 (lv_at hl 5 rfl) ?_
                      refine lv_iload_n hx hb dX6_need_103 rfl (lv_at hl 2 rfl) ?_
                      refine lv_iload hx hb dX6_need_104 (lv_at hl 4 rfl) ?_
                      obtain ⟨⟨r106, ftrial_106⟩, hc106, hf⟩ := bd_e hf
                      try dsimp only at hf
                      refine cl_z_up (Wd := (wX6 G ad ado f ++ (wX0 G (ado 1) fnow ++ (wX0 G (ado 2) ftrial_)))) (Wc := (wX0 G (ado 2) ftrial_)) (W' := (wX0 G (ado 2) ftrial_106)) (W2 := (wX6 G ad ado f ++ (wX0 G (ado 1) fnow ++ (wX0 G (ado 2) ftrial_106)))) (Wr := (wX6 G ad ado f ++ (wX0 G (ado 1) fnow))) [15, 16, 17, 18, 19, 20, 21, 22, 23, 24, 25] [0, 1, 2, 3, 4, 5, 6, 7, 8, 9, 10, 11, 12, 13, 14] rfl rfl rfl rfl rfl rfl (va_runVN (As := [.int x1, .int x5, .int x2, .int x4]) (rest := []) hC (c_X0_wouldGetEgg l G (ado 2) ftrial_ x1 x5 x2 x4 r106 ftrial_106 hc106 _) ⟨va_cnB 4 hts gX6_need_X0_wouldGetEgg_n213 rfl rfl rfl (hE.2.2 (RX6, 213, yX0_wouldGetEgg, "FeatherShares") (List.mem_of_getElem? (i := 27) rfl)) (hts (.initialized RX0) (by decide +kernel)) (by decide +kernel) ⟨Nat.le_of_ble_eq_true rfl, Nat.le_of_ble_eq_true rfl⟩, hts (.instanceMethod yX0_wouldGetEgg) (by decide +kernel), hts (.selects RX0 yX0_wouldGetEgg yX0_wouldGetEgg) (by decide +kernel)⟩ ⟨Pc0_blind, va_recv hT hP (q0 := 15) (ci := 0) rfl rfl, fun U hU hW => Pc0_at (Wd := (wX0 G (ado 2) ftrial_)) hE (hP.subm [15, 16, 17, 18, 19, 20, 21, 22, 23, 24, 25] rfl) (hD.sub [15, 16, 17, 18, 19, 20, 21, 22, 23, 24, 25] (by decide) rfl) hU hW⟩ rfl rfl hl.1 rfl (lv_room (Nat.le_of_ble_eq_true rfl)) dX6_need_106 ⟨Nat.zero_le _, Nat.zero_le _⟩) hS hA hP hD (fun H locs hn106 hP hD hS => ?_)
                      refine lv_if_eq (tgt := 140) hx hb dX6_need_109 (by decide) (fun hc => ?_) (fun hc => ?_)
                      · have hf := if_t hf hc
                        refine lv_iinc (v := (x5 + nI 1)) (lv' := [(5, .int (x5 + nI 1)), (0, .ref (ad 0)), (1, .int x1), (2, .int x2), (3, .int x3), (4, .int x4)]) hx hb dX6_need_140 hl (k := 5) rfl (ii_x 1 _) (by decide) rfl (fun ls hl => ?_)
                        refine lv_goto (tgt := 68) hx hb dX6_need_143 (by decide) ?_
                        have hK9 := K_of hf hK
                        have hK9 := hW68 _ hK9
                        exact hK9 _ _ _ hP hD hS (lv_sub hl [1, 2, 3, 4, 5, 0] rfl)
                      · have hf := if_f hf hc
                        refine lv_iload_n hx hb dX6_need_112 rfl (lv_at hl 3 rfl) ?_
                        refine lv_if_ne (tgt := 127) hx hb dX6_need_113 (by decide) (fun hc => ?_) (fun hc => ?_)
                        · have hf := if_f hf hc
                          refine lv_iload hx hb dX6_need_127 (lv_at hl 4 rfl) ?_
                          refine lv_aload_n hx hb dX6_need_129 rfl (lv_at hl 0 rfl) ?_
                          refine va_get (C := RX6) (T := TX6) (N := 11) (ci := 6) (v := .ref ((ado 1) 0)) hx hb hts inX6 hown hT hP 0 rfl rfl 0 (Nat.le_of_ble_eq_true rfl) lk12 (fun _ h => h) rfl dX6_need_130 ?_
                          refine va_getN (C := RX0) (T := TX0) (N := 13) (ci := 0) (v := .ref ((ado 1) 3)) hx hb hts inX0 hown hT hP 4 rfl rfl 5 (Nat.le_of_ble_eq_true rfl) lk135 (fun _ h => h) rfl dX6_need_133 ?_
                          refine lv_iload_n hx hb dX6_need_136 rfl (lv_at hl 2 rfl) ?_
                          obtain ⟨hg, hf⟩ := gd_e hf
                          refine va_iald (f := fnow 3) hx hb hT hP 7 0 rfl rfl (inb_e hg) dX6_need_137 ?_
                          refine lv_imul hx hb dX6_need_138 ?_
                          have hK9 := K_of hf hK
                          have hK9 := hO68 _ hK9
                          have hK9 := hO58 _ hK9
                          exact hRet (x4 * (fnow 3 x2.toNatClampNeg)) ftrial_106 _ _ _ _ hK9 dX6_need_139 hP hD hS
                        · have hf := if_t hf hc
                          refine lv_bipush (v := (nI 10)) hx hb dX6_need_116 (bi_10) ?_
                          refine lv_iload hx hb dX6_need_118 (lv_at hl 5 rfl) ?_
                          refine lv_imul hx hb dX6_need_120 ?_
                          refine lv_iload hx hb dX6_need_121 (lv_at hl 4 rfl) ?_
                          refine lv_iadd hx hb dX6_need_123 ?_
                          refine lv_goto (tgt := 139) hx hb dX6_need_124 (by decide) ?_
                          have hK9 := K_of hf hK
                          have hK9 := hO68 _ hK9
                          have hK9 := hO58 _ hK9
                          exact hRet (((nI 10) * x5) + x4) ftrial_106 _ _ _ _ hK9 dX6_need_139 hP hD hS
              · rcases ze with ftrial_68 | zo
                · try simp only [Sum.elim_inl] at hf
                  try dsimp only at hf
                  show ∀ (H : Heap) (locs : List Loc) (ls : Array Slot), va_P G.1 vwCl (wX6 G ad ado f ++ (wX0 G (ado 1) fnow ++ (wX0 G (ado 2) ftrial_68))) H → va_D A (wX6 G ad ado f ++ (wX0 G (ado 1) fnow ++ (wX0 G (ado 2) ftrial_68))) → va_S A s.heap H locs → lv_has ls 6 [(0, .ref (ad 0)), (1, .int x1), (2, .int x2), (3, .int x3), (4, .int x4)] → W p l e ({ frames := 4, cells := 0, slots := 0, locals := 83 }) s m args below meth c H locs 0 0 Q (F0 m 146 ls [])
                  intro H locs ls hP hD hS hl
                  refine lv_iinc (v := (x4 + nI 1)) (lv' := [(4, .int (x4 + nI 1)), (0, .ref (ad 0)), (1, .int x1), (2, .int x2), (3, .int x3)]) hx hb dX6_need_146 hl (k := 4) rfl (ii_x 1 _) (by decide) rfl (fun ls hl => ?_)
                  refine lv_goto (tgt := 58) hx hb dX6_need_149 (by decide) ?_
                  have hK9 := K_of hf hK
                  have hK9 := hW58 _ hK9
                  exact hK9 _ _ _ hP hD hS (lv_sub hl [1, 2, 3, 4, 0] rfl)
                · have hK9 := K_of (show some zo = some _ from hf) hK
                  exact hK9
          · rcases ze with ftrial_58 | zo
            · try simp only [Sum.elim_inl] at hf
              try dsimp only at hf
              show ∀ (H : Heap) (locs : List Loc) (ls : Array Slot), va_P G.1 vwCl (wX6 G ad ado f ++ (wX0 G (ado 1) fnow ++ (wX0 G (ado 2) ftrial_58))) H → va_D A (wX6 G ad ado f ++ (wX0 G (ado 1) fnow ++ (wX0 G (ado 2) ftrial_58))) → va_S A s.heap H locs → lv_has ls 6 [] → W p l e ({ frames := 4, cells := 0, slots := 0, locals := 83 }) s m args below meth c H locs 0 0 Q (F0 m 152 ls [])
              intro H locs ls hP hD hS hl
              refine lv_bipush (v := (-4 : Int32)) hx hb dX6_need_152 (bi_m4) ?_
              have hK9 := K0_of hf hK
              exact hRet (-4 : Int32) ftrial_58 _ _ _ _ hK9 dX6_need_154 hP hD hS
            · have hK9 := K0_of (show some zo = some _ from hf) hK
              exact hK9
        · have hf := if_t hf hc
          refine lv_bipush (v := (-2 : Int32)) hx hb dX6_need_41 (bi_m2) ?_
          have hK9 := K0_of hf hK
          exact hRet (-2 : Int32) ftrial _ _ _ _ hK9 dX6_need_43 hP hD hS
      · have hf := if_t hf hc
        refine lv_iconst (v := (-1 : Int32)) hx hb dX6_need_27 (ic_m1) ?_
        have hK9 := K0_of hf hK
        exact hRet (-1 : Int32) ftrial _ _ _ _ hK9 dX6_need_28 hP hD hS
noncomputable def p_X6_best_B40 (f : Mem) (fnow : Mem) (frowSearch : Mem) (frsflock : Mem) (x1 : Int32) (x2 : Int32) (x3 : Int32) : Option (Int32 × Mem × Mem) :=
  Option.bind (p_X1_findBest frowSearch frsflock fnow x1 x2) <| fun (frowSearch_50, frsflock_50) =>
  if x3 = (nI 0) then
    (some ((frowSearch_50 0 2), frowSearch_50, frsflock_50))
  else if x3 = (nI 1) then
    (some ((frowSearch_50 0 3), frowSearch_50, frsflock_50))
  else if x3 = (nI 2) then
    (some ((frowSearch_50 0 4), frowSearch_50, frsflock_50))
  else if x3 = (nI 10) then
    (some ((frowSearch_50 0 5), frowSearch_50, frsflock_50))
  else
    (some ((frowSearch_50 0 6), frowSearch_50, frsflock_50))
noncomputable def p_X6_best (f : Mem) (fnow : Mem) (frowSearch : Mem) (frsflock : Mem) (x1 : Int32) (x2 : Int32) (x3 : Int32) : Option (Int32 × Mem × Mem) :=
  Option.bind (p_X6_isOwner x1) <| fun r1 =>
  if r1 = 0 then
    (some ((-1 : Int32), frowSearch, frsflock))
  else
    (Option.bind (p_X6_isWithin x2 (nI 0) (nI 2)) <| fun r10 =>
     if r10 = 0 then
       (some ((-1 : Int32), frowSearch, frsflock))
     else
       (Option.bind (p_X6_isWithin x3 (nI 0) (nI 2)) <| fun r21 =>
        if r21 = 0 then
          (Option.bind (p_X6_isWithin x3 (nI 10) (nI 11)) <| fun r32 =>
           if r32 = 0 then
             (some ((-1 : Int32), frowSearch, frsflock))
           else
             (p_X6_best_B40 f fnow frowSearch frsflock x1 x2 x3))
        else
          (p_X6_best_B40 f fnow frowSearch frsflock x1 x2 x3)))
set_option maxHeartbeats 4000000 in
set_option maxRecDepth 100000 in
theorem c_X6_best (l : Launch) (G : Gt) (ad : Nat → Nat) (ado : Nat → Nat → Nat) (f : Mem) (fnow : Mem) (frowSearch : Mem) (frsflock : Mem) (x1 : Int32) (x2 : Int32) (x3 : Int32) (r : Int32) (frowSearchz : Mem) (frsflockz : Mem) (hf : p_X6_best f fnow frowSearch frsflock x1 x2 x3 = some (r, frowSearchz, frsflockz)) (sz : Nat) : Met l yX6_best wsX6_best ({ frames := 7, cells := 0, slots := 0, locals := 154 }) (Pc0 G sz [.ref (ad 0), .int x1, .int x2, .int x3] (wX6 G ad ado f ++ (wX0 G (ado 1) fnow ++ (wX1 G (ado 9) ((ado 10) 0) frowSearch ++ (wX0 G (ado 10) frsflock))))) (Qi0 G (va_A (wX6 G ad ado f ++ (wX0 G (ado 1) fnow ++ (wX1 G (ado 9) ((ado 10) 0) frowSearch ++ (wX0 G (ado 10) frsflock)))) sz) r (wX6 G ad ado f ++ (wX0 G (ado 1) fnow ++ (wX1 G (ado 9) ((ado 10) 0) frowSearchz ++ (wX0 G (ado 10) frsflockz))))) 0 0 (va_A (wX6 G ad ado f ++ (wX0 G (ado 1) fnow ++ (wX1 G (ado 9) ((ado 10) 0) frowSearch ++ (wX0 G (ado 10) frsflock)))) sz) := by
  refine metP (Qf := fun A => Qi0 G A r (wX6 G ad ado f ++ (wX0 G (ado 1) fnow ++ (wX1 G (ado 9) ((ado 10) 0) frowSearchz ++ (wX0 G (ado 10) frsflockz))))) cX6_best 4 (some .int) (by decide) rfl (Nat.le_of_ble_eq_true rfl) ?_
  intro p e s m below meth c A ls hC hr hlocks hin hE hA hsz hP hD hS hl
  generalize hargs : ([.ref (ad 0), .int x1, .int x2, .int x3] : List Value).toArray = args at hC ⊢
  obtain ⟨hx, hb, hml, hown, hts⟩ := id hC
  have hT : va_K G.1 vwCl (tyL G) s := hE.1
  have hRet : ∀ (r9 : Int32) (frowSearch9 : Mem) (frsflock9 : Mem) (H : Heap) (locs : List Loc) (ls : Array Slot) (pc : Nat) (hK9 : (r9, frowSearch9, frsflock9) = (r, frowSearchz, frsflockz)) (hdg : decode cX6_best pc = .ok (.ireturn, 1)), va_P G.1 vwCl (wX6 G ad ado f ++ (wX0 G (ado 1) fnow ++ (wX1 G (ado 9) ((ado 10) 0) frowSearch9 ++ (wX0 G (ado 10) frsflock9)))) H → va_D A (wX6 G ad ado f ++ (wX0 G (ado 1) fnow ++ (wX1 G (ado 9) ((ado 10) 0) frowSearch9 ++ (wX0 G (ado 10) frsflock9)))) → va_S A s.heap H locs → W p l e ({ frames := 7, cells := 0, slots := 0, locals := 154 }) s m args below meth c H locs 0 0 (MQ below (Qi0 G A r (wX6 G ad ado f ++ (wX0 G (ado 1) fnow ++ (wX1 G (ado 9) ((ado 10) 0) frowSearchz ++ (wX0 G (ado 10) frsflockz))))) args s 0 0 A) (F0 m pc ls [.int r9]) := by
    intro r9 frowSearch9 frsflock9 H locs ls pc hK9 hdg hP hD hS
    cases hK9
    exact W.iret hx hb hr (fun t ht hW => ⟨⟨r, (), rfl, rfl, by rw [ht]; exact hP, hD⟩, hS.F ht⟩) hS.2.2 hdg hlocks
  generalize MQ below (Qi0 G A r (wX6 G ad ado f ++ (wX0 G (ado 1) fnow ++ (wX1 G (ado 9) ((ado 10) 0) frowSearchz ++ (wX0 G (ado 10) frsflockz))))) args s 0 0 A = Q at hRet ⊢
  have lk55 := hts (.fieldLink RX6 55 "FeatherShares" "rowSearch" "LFeatherShares$RowSearch;") (by decide +kernel)
  have inX6 : ∀ w ∈ u_ws RX6 TX6 11, w ∈ wsX6_best := by decide +kernel
  have lk12 := hts (.fieldLink RX6 12 "FeatherShares" "now" "LFeatherShares$Flock;") (by decide +kernel)
  have lk220 := va_Nw.use (A := args) rfl (hE.2.1 (RX6, 220, "FeatherShares$RowSearch", "bestGeese", "I", "FeatherShares") (List.mem_of_getElem? (i := 19) rfl))
  have inX1 : ∀ w ∈ u_ws RX1 TX1 9, w ∈ wsX6_best := by decide +kernel
  have lk223 := va_Nw.use (A := args) rfl (hE.2.1 (RX6, 223, "FeatherShares$RowSearch", "bestMoney", "I", "FeatherShares") (List.mem_of_getElem? (i := 20) rfl))
  have lk226 := va_Nw.use (A := args) rfl (hE.2.1 (RX6, 226, "FeatherShares$RowSearch", "bestLength", "I", "FeatherShares") (List.mem_of_getElem? (i := 21) rfl))
  have lk229 := va_Nw.use (A := args) rfl (hE.2.1 (RX6, 229, "FeatherShares$RowSearch", "bestFirst", "I", "FeatherShares") (List.mem_of_getElem? (i := 22) rfl))
  have lk232 := va_Nw.use (A := args) rfl (hE.2.1 (RX6, 232, "FeatherShares$RowSearch", "bestSecond", "I", "FeatherShares") (List.mem_of_getElem? (i := 23) rfl))
  have hl : lv_has ls 4 [(0, .ref (ad 0)), (1, .int x1), (2, .int x2), (3, .int x3)] := hl
  have hK0 : (r, frowSearchz, frsflockz) = (r, frowSearchz, frsflockz) := rfl
  have hB40 : ∀ (frowSearch : Mem) (frsflock : Mem) (x1 : Int32) (x2 : Int32) (x3 : Int32) (res : Int32 × Mem × Mem) (hf : p_X6_best_B40 f fnow frowSearch frsflock x1 x2 x3 = some res) (hK : res = (r, frowSearchz, frsflockz)), ∀ (H : Heap) (locs : List Loc) (ls : Array Slot), va_P G.1 vwCl (wX6 G ad ado f ++ (wX0 G (ado 1) fnow ++ (wX1 G (ado 9) ((ado 10) 0) frowSearch ++ (wX0 G (ado 10) frsflock)))) H → va_D A (wX6 G ad ado f ++ (wX0 G (ado 1) fnow ++ (wX1 G (ado 9) ((ado 10) 0) frowSearch ++ (wX0 G (ado 10) frsflock)))) → va_S A s.heap H locs → lv_has ls 4 [(0, .ref (ad 0)), (1, .int x1), (2, .int x2), (3, .int x3)] → W p l e ({ frames := 7, cells := 0, slots := 0, locals := 154 }) s m args below meth c H locs 0 0 Q (F0 m 40 ls []) := by
    intro frowSearch frsflock x1 x2 x3 res hf hK H locs ls hP hD hS hl
    unfold p_X6_best_B40 at hf
    refine lv_aload_n hx hb dX6_best_40 rfl (lv_at hl 0 rfl) ?_
    refine va_get (C := RX6) (T := TX6) (N := 11) (ci := 6) (v := .ref ((ado 9) 0)) hx hb hts inX6 hown hT hP 0 rfl rfl 8 (Nat.le_of_ble_eq_true rfl) lk55 (fun _ h => h) rfl dX6_best_41 ?_
    refine lv_aload_n hx hb dX6_best_44 rfl (lv_at hl 0 rfl) ?_
    refine va_get (C := RX6) (T := TX6) (N := 11) (ci := 6) (v := .ref ((ado 1) 0)) hx hb hts inX6 hown hT hP 0 rfl rfl 0 (Nat.le_of_ble_eq_true rfl) lk12 (fun _ h => h) rfl dX6_best_45 ?_
    refine lv_iload_n hx hb dX6_best_48 rfl (lv_at hl 1 rfl) ?_
    refine lv_iload_n hx hb dX6_best_49 rfl (lv_at hl 2 rfl) ?_
    obtain ⟨⟨frowSearch_50, frsflock_50⟩, hc50, hf⟩ := bd_e hf
    try dsimp only at hf
    refine cl_v_up (Wd := (wX6 G ad ado f ++ (wX0 G (ado 1) fnow ++ (wX1 G (ado 9) ((ado 10) 0) frowSearch ++ (wX0 G (ado 10) frsflock))))) (Wc := (wX1 G (ado 9) ((ado 10) 0) frowSearch ++ (wX0 G (ado 10) frsflock ++ (wX0 G (ado 1) fnow)))) (W' := (wX1 G (ado 9) ((ado 10) 0) frowSearch_50 ++ (wX0 G (ado 10) frsflock_50 ++ (wX0 G (ado 1) fnow)))) (W2 := (wX6 G ad ado f ++ (wX0 G (ado 1) fnow ++ (wX1 G (ado 9) ((ado 10) 0) frowSearch_50 ++ (wX0 G (ado 10) frsflock_50))))) (Wr := (wX6 G ad ado f)) [15, 16, 17, 18, 19, 20, 21, 22, 23, 24, 25, 26, 27, 4, 5, 6, 7, 8, 9, 10, 11, 12, 13, 14] [0, 1, 2, 3] rfl rfl rfl rfl rfl rfl (va_runVN (As := [.ref ((ado 1) 0), .int x1, .int x2]) (rest := []) hC (c_X1_findBest l G (ado 9) (ado 10) (ado 1) frowSearch frsflock fnow x1 x2 frowSearch_50 frsflock_50 hc50 _) ⟨va_cnB 3 hts gX6_best_X1_findBest_n216 rfl rfl rfl (hE.2.2 (RX6, 216, yX1_findBest, "FeatherShares") (List.mem_of_getElem? (i := 28) rfl)) (hts (.initialized RX1) (by decide +kernel)) (by decide +kernel) ⟨Nat.le_of_ble_eq_true rfl, Nat.le_of_ble_eq_true rfl⟩, hts (.instanceMethod yX1_findBest) (by decide +kernel), hts (.selects RX1 yX1_findBest yX1_findBest) (by decide +kernel)⟩ ⟨Pc0_blind, va_recv hT hP (q0 := 15) (ci := 1) rfl rfl, fun U hU hW => Pc0_at (Wd := (wX1 G (ado 9) ((ado 10) 0) frowSearch ++ (wX0 G (ado 10) frsflock ++ (wX0 G (ado 1) fnow)))) hE (hP.subm [15, 16, 17, 18, 19, 20, 21, 22, 23, 24, 25, 26, 27, 4, 5, 6, 7, 8, 9, 10, 11, 12, 13, 14] rfl) (hD.sub [15, 16, 17, 18, 19, 20, 21, 22, 23, 24, 25, 26, 27, 4, 5, 6, 7, 8, 9, 10, 11, 12, 13, 14] (by decide) rfl) hU hW⟩ rfl rfl hl.1 rfl (lv_room (Nat.le_of_ble_eq_true rfl)) dX6_best_50 ⟨Nat.zero_le _, Nat.zero_le _⟩) hS hA hP hD (fun H locs hP hD hS => ?_)
    refine lv_iload_n hx hb dX6_best_53 rfl (lv_at hl 3 rfl) ?_
    by_cases hs0 : x3 = (nI 0)
    · have hf := if_t hf hs0
      refine lv_lookup (tgt := 96) (off := 42) hx hb dX6_best_54 (by decide) (by rw [hs0]; rfl) (by decide) ?_
      refine lv_aload_n hx hb dX6_best_96 rfl (lv_at hl 0 rfl) ?_
      refine va_get (C := RX6) (T := TX6) (N := 11) (ci := 6) (v := .ref ((ado 9) 0)) hx hb hts inX6 hown hT hP 0 rfl rfl 8 (Nat.le_of_ble_eq_true rfl) lk55 (fun _ h => h) rfl dX6_best_97 ?_
      refine va_getN (C := RX1) (T := TX1) (N := 9) (ci := 1) (v := .int (frowSearch_50 0 2)) hx hb hts inX1 hown hT hP 15 rfl rfl 4 (Nat.le_of_ble_eq_true rfl) lk220 (fun _ h => h) rfl dX6_best_100 ?_
      have hK9 := K0_of hf hK
      exact hRet (frowSearch_50 0 2) frowSearch_50 frsflock_50 _ _ _ _ hK9 dX6_best_103 hP hD hS
    have hf := if_f hf hs0
    by_cases hs1 : x3 = (nI 1)
    · have hf := if_t hf hs1
      refine lv_lookup (tgt := 104) (off := 50) hx hb dX6_best_54 (by decide) (by rw [hs1]; rfl) (by decide) ?_
      refine lv_aload_n hx hb dX6_best_104 rfl (lv_at hl 0 rfl) ?_
      refine va_get (C := RX6) (T := TX6) (N := 11) (ci := 6) (v := .ref ((ado 9) 0)) hx hb hts inX6 hown hT hP 0 rfl rfl 8 (Nat.le_of_ble_eq_true rfl) lk55 (fun _ h => h) rfl dX6_best_105 ?_
      refine va_getN (C := RX1) (T := TX1) (N := 9) (ci := 1) (v := .int (frowSearch_50 0 3)) hx hb hts inX1 hown hT hP 15 rfl rfl 5 (Nat.le_of_ble_eq_true rfl) lk223 (fun _ h => h) rfl dX6_best_108 ?_
      have hK9 := K0_of hf hK
      exact hRet (frowSearch_50 0 3) frowSearch_50 frsflock_50 _ _ _ _ hK9 dX6_best_111 hP hD hS
    have hf := if_f hf hs1
    by_cases hs2 : x3 = (nI 2)
    · have hf := if_t hf hs2
      refine lv_lookup (tgt := 112) (off := 58) hx hb dX6_best_54 (by decide) (by rw [hs2]; rfl) (by decide) ?_
      refine lv_aload_n hx hb dX6_best_112 rfl (lv_at hl 0 rfl) ?_
      refine va_get (C := RX6) (T := TX6) (N := 11) (ci := 6) (v := .ref ((ado 9) 0)) hx hb hts inX6 hown hT hP 0 rfl rfl 8 (Nat.le_of_ble_eq_true rfl) lk55 (fun _ h => h) rfl dX6_best_113 ?_
      refine va_getN (C := RX1) (T := TX1) (N := 9) (ci := 1) (v := .int (frowSearch_50 0 4)) hx hb hts inX1 hown hT hP 15 rfl rfl 6 (Nat.le_of_ble_eq_true rfl) lk226 (fun _ h => h) rfl dX6_best_116 ?_
      have hK9 := K0_of hf hK
      exact hRet (frowSearch_50 0 4) frowSearch_50 frsflock_50 _ _ _ _ hK9 dX6_best_119 hP hD hS
    have hf := if_f hf hs2
    by_cases hs3 : x3 = (nI 10)
    · have hf := if_t hf hs3
      refine lv_lookup (tgt := 120) (off := 66) hx hb dX6_best_54 (by decide) (by rw [hs3]; rfl) (by decide) ?_
      refine lv_aload_n hx hb dX6_best_120 rfl (lv_at hl 0 rfl) ?_
      refine va_get (C := RX6) (T := TX6) (N := 11) (ci := 6) (v := .ref ((ado 9) 0)) hx hb hts inX6 hown hT hP 0 rfl rfl 8 (Nat.le_of_ble_eq_true rfl) lk55 (fun _ h => h) rfl dX6_best_121 ?_
      refine va_getN (C := RX1) (T := TX1) (N := 9) (ci := 1) (v := .int (frowSearch_50 0 5)) hx hb hts inX1 hown hT hP 15 rfl rfl 7 (Nat.le_of_ble_eq_true rfl) lk229 (fun _ h => h) rfl dX6_best_124 ?_
      have hK9 := K0_of hf hK
      exact hRet (frowSearch_50 0 5) frowSearch_50 frsflock_50 _ _ _ _ hK9 dX6_best_127 hP hD hS
    have hf := if_f hf hs3
    refine lv_lookup (tgt := 128) (off := 74) hx hb dX6_best_54 (by decide) (by simp [Op.lookupswitch.offset, (show ¬ (0 : Int) = x3.toInt from fun e => ne_int hs0 (by decide) e.symm), (show ¬ (1 : Int) = x3.toInt from fun e => ne_int hs1 (by decide) e.symm), (show ¬ (2 : Int) = x3.toInt from fun e => ne_int hs2 (by decide) e.symm), (show ¬ (10 : Int) = x3.toInt from fun e => ne_int hs3 (by decide) e.symm)]) (by decide) ?_
    refine lv_aload_n hx hb dX6_best_128 rfl (lv_at hl 0 rfl) ?_
    refine va_get (C := RX6) (T := TX6) (N := 11) (ci := 6) (v := .ref ((ado 9) 0)) hx hb hts inX6 hown hT hP 0 rfl rfl 8 (Nat.le_of_ble_eq_true rfl) lk55 (fun _ h => h) rfl dX6_best_129 ?_
    refine va_getN (C := RX1) (T := TX1) (N := 9) (ci := 1) (v := .int (frowSearch_50 0 6)) hx hb hts inX1 hown hT hP 15 rfl rfl 8 (Nat.le_of_ble_eq_true rfl) lk232 (fun _ h => h) rfl dX6_best_132 ?_
    have hK9 := K0_of hf hK
    exact hRet (frowSearch_50 0 6) frowSearch_50 frsflock_50 _ _ _ _ hK9 dX6_best_135 hP hD hS
  obtain ⟨res, hres, hK⟩ : ∃ res, p_X6_best f fnow frowSearch frsflock x1 x2 x3 = some res ∧ res = (r, frowSearchz, frsflockz) := ⟨_, hf, rfl⟩
  clear hf
  have hf := hres
  clear hres
  unfold p_X6_best at hf
  refine lv_iload_n hx hb dX6_best_0 rfl (lv_at hl 1 rfl) ?_
  obtain ⟨r1, hc1, hf⟩ := bd_e hf
  refine cl_z_ro (Wd := (wX6 G ad ado f ++ (wX0 G (ado 1) fnow ++ (wX1 G (ado 9) ((ado 10) 0) frowSearch ++ (wX0 G (ado 10) frsflock))))) (Wc := ([] : va_W)) [] rfl (va_runS (As := [.int x1]) (rest := []) hC (c_X6_isOwner l G x1 r1 hc1 _) (va_cwS 1 hts gX6_best_X6_isOwner rfl rfl rfl (by decide +kernel) ⟨Nat.le_of_ble_eq_true rfl, Nat.le_of_ble_eq_true rfl⟩) ⟨Pc0_blind, fun U hU hW => Pc0_at (Wd := ([] : va_W)) hE (hP.subm [] rfl) (hD.sub [] (by decide) rfl) hU hW⟩ rfl rfl hl.1 rfl (lv_room (Nat.le_of_ble_eq_true rfl)) dX6_best_1 ⟨Nat.zero_le _, Nat.zero_le _⟩) hS hA hP hD (fun H locs hn1 hP hD hS => ?_)
  refine lv_if_eq (tgt := 16) hx hb dX6_best_4 (by decide) (fun hc => ?_) (fun hc => ?_)
  · have hf := if_t hf hc
    refine lv_iconst (v := (-1 : Int32)) hx hb dX6_best_16 (ic_m1) ?_
    have hK9 := K0_of hf hK
    exact hRet (-1 : Int32) frowSearch frsflock _ _ _ _ hK9 dX6_best_17 hP hD hS
  · have hf := if_f hf hc
    refine lv_iload_n hx hb dX6_best_7 rfl (lv_at hl 2 rfl) ?_
    refine lv_iconst (v := (nI 0)) hx hb dX6_best_8 (ic_0) ?_
    refine lv_iconst (v := (nI 2)) hx hb dX6_best_9 (ic_2) ?_
    obtain ⟨r10, hc10, hf⟩ := bd_e hf
    refine cl_z_ro (Wd := (wX6 G ad ado f ++ (wX0 G (ado 1) fnow ++ (wX1 G (ado 9) ((ado 10) 0) frowSearch ++ (wX0 G (ado 10) frsflock))))) (Wc := ([] : va_W)) [] rfl (va_runS (As := [.int x2, .int (nI 0), .int (nI 2)]) (rest := []) hC (c_X6_isWithin l G x2 (nI 0) (nI 2) r10 hc10 _) (va_cwS 3 hts gX6_best_X6_isWithin rfl rfl rfl (by decide +kernel) ⟨Nat.le_of_ble_eq_true rfl, Nat.le_of_ble_eq_true rfl⟩) ⟨Pc0_blind, fun U hU hW => Pc0_at (Wd := ([] : va_W)) hE (hP.subm [] rfl) (hD.sub [] (by decide) rfl) hU hW⟩ rfl rfl hl.1 rfl (lv_room (Nat.le_of_ble_eq_true rfl)) dX6_best_10 ⟨Nat.zero_le _, Nat.zero_le _⟩) hS hA hP hD (fun H locs hn10 hP hD hS => ?_)
    refine lv_if_ne (tgt := 18) hx hb dX6_best_13 (by decide) (fun hc => ?_) (fun hc => ?_)
    · have hf := if_f hf hc
      refine lv_iload_n hx hb dX6_best_18 rfl (lv_at hl 3 rfl) ?_
      refine lv_iconst (v := (nI 0)) hx hb dX6_best_19 (ic_0) ?_
      refine lv_iconst (v := (nI 2)) hx hb dX6_best_20 (ic_2) ?_
      obtain ⟨r21, hc21, hf⟩ := bd_e hf
      refine cl_z_ro (Wd := (wX6 G ad ado f ++ (wX0 G (ado 1) fnow ++ (wX1 G (ado 9) ((ado 10) 0) frowSearch ++ (wX0 G (ado 10) frsflock))))) (Wc := ([] : va_W)) [] rfl (va_runS (As := [.int x3, .int (nI 0), .int (nI 2)]) (rest := []) hC (c_X6_isWithin l G x3 (nI 0) (nI 2) r21 hc21 _) (va_cwS 3 hts gX6_best_X6_isWithin rfl rfl rfl (by decide +kernel) ⟨Nat.le_of_ble_eq_true rfl, Nat.le_of_ble_eq_true rfl⟩) ⟨Pc0_blind, fun U hU hW => Pc0_at (Wd := ([] : va_W)) hE (hP.subm [] rfl) (hD.sub [] (by decide) rfl) hU hW⟩ rfl rfl hl.1 rfl (lv_room (Nat.le_of_ble_eq_true rfl)) dX6_best_21 ⟨Nat.zero_le _, Nat.zero_le _⟩) hS hA hP hD (fun H locs hn21 hP hD hS => ?_)
      refine lv_if_ne (tgt := 40) hx hb dX6_best_24 (by decide) (fun hc => ?_) (fun hc => ?_)
      · have hf := if_f hf hc
        exact hB40 frowSearch frsflock x1 x2 x3 _ hf hK _ _ _ hP hD hS (lv_sub hl [0, 1, 2, 3] rfl)
      · have hf := if_t hf hc
        refine lv_iload_n hx hb dX6_best_27 rfl (lv_at hl 3 rfl) ?_
        refine lv_bipush (v := (nI 10)) hx hb dX6_best_28 (bi_10) ?_
        refine lv_bipush (v := (nI 11)) hx hb dX6_best_30 (bi_11) ?_
        obtain ⟨r32, hc32, hf⟩ := bd_e hf
        refine cl_z_ro (Wd := (wX6 G ad ado f ++ (wX0 G (ado 1) fnow ++ (wX1 G (ado 9) ((ado 10) 0) frowSearch ++ (wX0 G (ado 10) frsflock))))) (Wc := ([] : va_W)) [] rfl (va_runS (As := [.int x3, .int (nI 10), .int (nI 11)]) (rest := []) hC (c_X6_isWithin l G x3 (nI 10) (nI 11) r32 hc32 _) (va_cwS 3 hts gX6_best_X6_isWithin rfl rfl rfl (by decide +kernel) ⟨Nat.le_of_ble_eq_true rfl, Nat.le_of_ble_eq_true rfl⟩) ⟨Pc0_blind, fun U hU hW => Pc0_at (Wd := ([] : va_W)) hE (hP.subm [] rfl) (hD.sub [] (by decide) rfl) hU hW⟩ rfl rfl hl.1 rfl (lv_room (Nat.le_of_ble_eq_true rfl)) dX6_best_32 ⟨Nat.zero_le _, Nat.zero_le _⟩) hS hA hP hD (fun H locs hn32 hP hD hS => ?_)
        refine lv_if_ne (tgt := 40) hx hb dX6_best_35 (by decide) (fun hc => ?_) (fun hc => ?_)
        · have hf := if_f hf hc
          exact hB40 frowSearch frsflock x1 x2 x3 _ hf hK _ _ _ hP hD hS (lv_sub hl [0, 1, 2, 3] rfl)
        · have hf := if_t hf hc
          refine lv_iconst (v := (-1 : Int32)) hx hb dX6_best_38 (ic_m1) ?_
          have hK9 := K0_of hf hK
          exact hRet (-1 : Int32) frowSearch frsflock _ _ _ _ hK9 dX6_best_39 hP hD hS
    · have hf := if_t hf hc
      refine lv_iconst (v := (-1 : Int32)) hx hb dX6_best_16 (ic_m1) ?_
      have hK9 := K0_of hf hK
      exact hRet (-1 : Int32) frowSearch frsflock _ _ _ _ hK9 dX6_best_17 hP hD hS
noncomputable def p_X6_worthByPlanWithout (f : Mem) (fnow : Mem) (ftrial : Mem) (x1 : Int32) (x2 : Int32) : Option (Int32 × Mem) :=
  Option.bind (p_X0_copyFrom ftrial fnow) <| fun ftrial_8 =>
  Option.bind (p_X0_followPlanWithout ftrial_8 x1) <| fun ftrial_16 =>
  Option.bind (p_X0_worth ftrial_16 x2) <| fun r24 =>
  some (r24, ftrial_16)
set_option maxHeartbeats 4000000 in
set_option maxRecDepth 100000 in
theorem c_X6_worthByPlanWithout (l : Launch) (G : Gt) (ad : Nat → Nat) (ado : Nat → Nat → Nat) (f : Mem) (fnow : Mem) (ftrial : Mem) (x1 : Int32) (x2 : Int32) (r : Int32) (ftrialz : Mem) (hf : p_X6_worthByPlanWithout f fnow ftrial x1 x2 = some (r, ftrialz)) (sz : Nat) : Met l yX6_worthByPlanWithout wsX6_worthByPlanWithout ({ frames := 7, cells := 0, slots := 0, locals := 150 }) (Pc0 G sz [.ref (ad 0), .int x1, .int x2] (wX6 G ad ado f ++ (wX0 G (ado 1) fnow ++ (wX0 G (ado 2) ftrial)))) (Qi0 G (va_A (wX6 G ad ado f ++ (wX0 G (ado 1) fnow ++ (wX0 G (ado 2) ftrial))) sz) r (wX6 G ad ado f ++ (wX0 G (ado 1) fnow ++ (wX0 G (ado 2) ftrialz)))) 0 0 (va_A (wX6 G ad ado f ++ (wX0 G (ado 1) fnow ++ (wX0 G (ado 2) ftrial))) sz) := by
  refine metP (Qf := fun A => Qi0 G A r (wX6 G ad ado f ++ (wX0 G (ado 1) fnow ++ (wX0 G (ado 2) ftrialz)))) cX6_worthByPlanWithout 3 (some .int) (by decide) rfl (Nat.le_of_ble_eq_true rfl) ?_
  intro p e s m below meth c A ls hC hr hlocks hin hE hA hsz hP hD hS hl
  generalize hargs : ([.ref (ad 0), .int x1, .int x2] : List Value).toArray = args at hC ⊢
  obtain ⟨hx, hb, hml, hown, hts⟩ := id hC
  have hT : va_K G.1 vwCl (tyL G) s := hE.1
  have hRet : ∀ (r9 : Int32) (ftrial9 : Mem) (H : Heap) (locs : List Loc) (ls : Array Slot) (pc : Nat) (hK9 : (r9, ftrial9) = (r, ftrialz)) (hdg : decode cX6_worthByPlanWithout pc = .ok (.ireturn, 1)), va_P G.1 vwCl (wX6 G ad ado f ++ (wX0 G (ado 1) fnow ++ (wX0 G (ado 2) ftrial9))) H → va_D A (wX6 G ad ado f ++ (wX0 G (ado 1) fnow ++ (wX0 G (ado 2) ftrial9))) → va_S A s.heap H locs → W p l e ({ frames := 7, cells := 0, slots := 0, locals := 150 }) s m args below meth c H locs 0 0 (MQ below (Qi0 G A r (wX6 G ad ado f ++ (wX0 G (ado 1) fnow ++ (wX0 G (ado 2) ftrialz)))) args s 0 0 A) (F0 m pc ls [.int r9]) := by
    intro r9 ftrial9 H locs ls pc hK9 hdg hP hD hS
    cases hK9
    exact W.iret hx hb hr (fun t ht hW => ⟨⟨r, (), rfl, rfl, by rw [ht]; exact hP, hD⟩, hS.F ht⟩) hS.2.2 hdg hlocks
  generalize MQ below (Qi0 G A r (wX6 G ad ado f ++ (wX0 G (ado 1) fnow ++ (wX0 G (ado 2) ftrialz)))) args s 0 0 A = Q at hRet ⊢
  have lk16 := hts (.fieldLink RX6 16 "FeatherShares" "trial" "LFeatherShares$Flock;") (by decide +kernel)
  have inX6 : ∀ w ∈ u_ws RX6 TX6 11, w ∈ wsX6_worthByPlanWithout := by decide +kernel
  have lk12 := hts (.fieldLink RX6 12 "FeatherShares" "now" "LFeatherShares$Flock;") (by decide +kernel)
  have hl : lv_has ls 3 [(0, .ref (ad 0)), (1, .int x1), (2, .int x2)] := hl
  have hK0 : (r, ftrialz) = (r, ftrialz) := rfl
  obtain ⟨res, hres, hK⟩ : ∃ res, p_X6_worthByPlanWithout f fnow ftrial x1 x2 = some res ∧ res = (r, ftrialz) := ⟨_, hf, rfl⟩
  clear hf
  have hf := hres
  clear hres
  unfold p_X6_worthByPlanWithout at hf
  refine lv_aload_n hx hb dX6_worthByPlanWithout_0 rfl (lv_at hl 0 rfl) ?_
  refine va_get (C := RX6) (T := TX6) (N := 11) (ci := 6) (v := .ref ((ado 2) 0)) hx hb hts inX6 hown hT hP 0 rfl rfl 1 (Nat.le_of_ble_eq_true rfl) lk16 (fun _ h => h) rfl dX6_worthByPlanWithout_1 ?_
  refine lv_aload_n hx hb dX6_worthByPlanWithout_4 rfl (lv_at hl 0 rfl) ?_
  refine va_get (C := RX6) (T := TX6) (N := 11) (ci := 6) (v := .ref ((ado 1) 0)) hx hb hts inX6 hown hT hP 0 rfl rfl 0 (Nat.le_of_ble_eq_true rfl) lk12 (fun _ h => h) rfl dX6_worthByPlanWithout_5 ?_
  obtain ⟨ftrial_8, hc8, hf⟩ := bd_e hf
  refine cl_v_up (Wd := (wX6 G ad ado f ++ (wX0 G (ado 1) fnow ++ (wX0 G (ado 2) ftrial)))) (Wc := (wX0 G (ado 2) ftrial ++ (wX0 G (ado 1) fnow))) (W' := (wX0 G (ado 2) ftrial_8 ++ (wX0 G (ado 1) fnow))) (W2 := (wX6 G ad ado f ++ (wX0 G (ado 1) fnow ++ (wX0 G (ado 2) ftrial_8)))) (Wr := (wX6 G ad ado f)) [15, 16, 17, 18, 19, 20, 21, 22, 23, 24, 25, 4, 5, 6, 7, 8, 9, 10, 11, 12, 13, 14] [0, 1, 2, 3] rfl rfl rfl rfl rfl rfl (va_runVN (As := [.ref ((ado 1) 0)]) (rest := []) hC (c_X0_copyFrom l G (ado 2) (ado 1) ftrial fnow ftrial_8 hc8 _) ⟨va_cnB 1 hts gX6_worthByPlanWithout_X0_copyFrom_n93 rfl rfl rfl (hE.2.2 (RX6, 93, yX0_copyFrom, "FeatherShares") (List.mem_of_getElem? (i := 8) rfl)) (hts (.initialized RX0) (by decide +kernel)) (by decide +kernel) ⟨Nat.le_of_ble_eq_true rfl, Nat.le_of_ble_eq_true rfl⟩, hts (.instanceMethod yX0_copyFrom) (by decide +kernel), hts (.selects RX0 yX0_copyFrom yX0_copyFrom) (by decide +kernel)⟩ ⟨Pc0_blind, va_recv hT hP (q0 := 15) (ci := 0) rfl rfl, fun U hU hW => Pc0_at (Wd := (wX0 G (ado 2) ftrial ++ (wX0 G (ado 1) fnow))) hE (hP.subm [15, 16, 17, 18, 19, 20, 21, 22, 23, 24, 25, 4, 5, 6, 7, 8, 9, 10, 11, 12, 13, 14] rfl) (hD.sub [15, 16, 17, 18, 19, 20, 21, 22, 23, 24, 25, 4, 5, 6, 7, 8, 9, 10, 11, 12, 13, 14] (by decide) rfl) hU hW⟩ rfl rfl hl.1 rfl (lv_room (Nat.le_of_ble_eq_true rfl)) dX6_worthByPlanWithout_8 ⟨Nat.zero_le _, Nat.zero_le _⟩) hS hA hP hD (fun H locs hP hD hS => ?_)
  refine lv_aload_n hx hb dX6_worthByPlanWithout_11 rfl (lv_at hl 0 rfl) ?_
  refine va_get (C := RX6) (T := TX6) (N := 11) (ci := 6) (v := .ref ((ado 2) 0)) hx hb hts inX6 hown hT hP 0 rfl rfl 1 (Nat.le_of_ble_eq_true rfl) lk16 (fun _ h => h) rfl dX6_worthByPlanWithout_12 ?_
  refine lv_iload_n hx hb dX6_worthByPlanWithout_15 rfl (lv_at hl 1 rfl) ?_
  obtain ⟨ftrial_16, hc16, hf⟩ := bd_e hf
  refine cl_v_up (Wd := (wX6 G ad ado f ++ (wX0 G (ado 1) fnow ++ (wX0 G (ado 2) ftrial_8)))) (Wc := (wX0 G (ado 2) ftrial_8)) (W' := (wX0 G (ado 2) ftrial_16)) (W2 := (wX6 G ad ado f ++ (wX0 G (ado 1) fnow ++ (wX0 G (ado 2) ftrial_16)))) (Wr := (wX6 G ad ado f ++ (wX0 G (ado 1) fnow))) [15, 16, 17, 18, 19, 20, 21, 22, 23, 24, 25] [0, 1, 2, 3, 4, 5, 6, 7, 8, 9, 10, 11, 12, 13, 14] rfl rfl rfl rfl rfl rfl (va_runVN (As := [.int x1]) (rest := []) hC (c_X0_followPlanWithout l G (ado 2) ftrial_8 x1 ftrial_16 hc16 _) ⟨va_cnB 1 hts gX6_worthByPlanWithout_X0_followPlanWithout_n203 rfl rfl rfl (hE.2.2 (RX6, 203, yX0_followPlanWithout, "FeatherShares") (List.mem_of_getElem? (i := 24) rfl)) (hts (.initialized RX0) (by decide +kernel)) (by decide +kernel) ⟨Nat.le_of_ble_eq_true rfl, Nat.le_of_ble_eq_true rfl⟩, hts (.instanceMethod yX0_followPlanWithout) (by decide +kernel), hts (.selects RX0 yX0_followPlanWithout yX0_followPlanWithout) (by decide +kernel)⟩ ⟨Pc0_blind, va_recv hT hP (q0 := 15) (ci := 0) rfl rfl, fun U hU hW => Pc0_at (Wd := (wX0 G (ado 2) ftrial_8)) hE (hP.subm [15, 16, 17, 18, 19, 20, 21, 22, 23, 24, 25] rfl) (hD.sub [15, 16, 17, 18, 19, 20, 21, 22, 23, 24, 25] (by decide) rfl) hU hW⟩ rfl rfl hl.1 rfl (lv_room (Nat.le_of_ble_eq_true rfl)) dX6_worthByPlanWithout_16 ⟨Nat.zero_le _, Nat.zero_le _⟩) hS hA hP hD (fun H locs hP hD hS => ?_)
  refine lv_aload_n hx hb dX6_worthByPlanWithout_19 rfl (lv_at hl 0 rfl) ?_
  refine va_get (C := RX6) (T := TX6) (N := 11) (ci := 6) (v := .ref ((ado 2) 0)) hx hb hts inX6 hown hT hP 0 rfl rfl 1 (Nat.le_of_ble_eq_true rfl) lk16 (fun _ h => h) rfl dX6_worthByPlanWithout_20 ?_
  refine lv_iload_n hx hb dX6_worthByPlanWithout_23 rfl (lv_at hl 2 rfl) ?_
  obtain ⟨r24, hc24, hf⟩ := bd_e hf
  refine cl_i_ro (Wd := (wX6 G ad ado f ++ (wX0 G (ado 1) fnow ++ (wX0 G (ado 2) ftrial_16)))) (Wc := (wX0 G (ado 2) ftrial_16)) [15, 16, 17, 18, 19, 20, 21, 22, 23, 24, 25] rfl (va_runVN (As := [.int x2]) (rest := []) hC (c_X0_worth l G (ado 2) ftrial_16 x2 r24 hc24 _) ⟨va_cnB 1 hts gX6_worthByPlanWithout_X0_worth_n210 rfl rfl rfl (hE.2.2 (RX6, 210, yX0_worth, "FeatherShares") (List.mem_of_getElem? (i := 26) rfl)) (hts (.initialized RX0) (by decide +kernel)) (by decide +kernel) ⟨Nat.le_of_ble_eq_true rfl, Nat.le_of_ble_eq_true rfl⟩, hts (.instanceMethod yX0_worth) (by decide +kernel), hts (.selects RX0 yX0_worth yX0_worth) (by decide +kernel)⟩ ⟨Pc0_blind, va_recv hT hP (q0 := 15) (ci := 0) rfl rfl, fun U hU hW => Pc0_at (Wd := (wX0 G (ado 2) ftrial_16)) hE (hP.subm [15, 16, 17, 18, 19, 20, 21, 22, 23, 24, 25] rfl) (hD.sub [15, 16, 17, 18, 19, 20, 21, 22, 23, 24, 25] (by decide) rfl) hU hW⟩ rfl rfl hl.1 rfl (lv_room (Nat.le_of_ble_eq_true rfl)) dX6_worthByPlanWithout_24 ⟨Nat.zero_le _, Nat.zero_le _⟩) hS hA hP hD (fun H locs hP hD hS => ?_)
  have hK9 := K0_of hf hK
  exact hRet r24 ftrial_16 _ _ _ _ hK9 dX6_worthByPlanWithout_27 hP hD hS
noncomputable def p_X6_leave_L33 (f : Mem) (fnow : Mem) (x1 : Int32) (x2 : Int32) (z : Int32 × Int32 × Int32 × Mem) : Option ((Int32 × Int32 × Int32 × Mem) ⊕ (Int32 × Int32 × Mem)) :=
  match z with
  | (x3, x4, x5, ftrial_) =>
    if (fnow 0 2) ≤ x5 then
      (some (Sum.inr (x3, x4, ftrial_)))
    else
      (Option.bind (p_X6_worthByPlanWithout f fnow ftrial_ x5 x1) <| fun (r49, ftrial_49) =>
       if r49 ≤ x3 then
         (some (Sum.inl (x3, x4, (x5 + nI 1), ftrial_49)))
       else
         (some (Sum.inl (r49, x5, (x5 + nI 1), ftrial_49))))
noncomputable def p_X6_leave (f : Mem) (fnow : Mem) (ftrial : Mem) (x1 : Int32) (x2 : Int32) : Option (Int32 × Mem) :=
  Option.bind (p_X6_isOwner x1) <| fun r1 =>
  if r1 = 0 then
    (some ((-1 : Int32), ftrial))
  else
    (Option.bind (p_X6_isWithin x2 (nI 0) (nI 1)) <| fun r10 =>
     if r10 = 0 then
       (some ((-1 : Int32), ftrial))
     else
       (Option.bind (p_X6_worthByPlanWithout f fnow ftrial (-4 : Int32) x1) <| fun (r22, ftrial_22) =>
        Option.bind (lp (p_X6_leave_L33 f fnow x1 x2) (r22, (-4 : Int32), (nI 0), ftrial_22)) <| fun (y3_33, y4_33, ftrial_33) =>
        if x2 = 0 then
          (some (y4_33, ftrial_33))
        else
          (if y4_33 = (-4 : Int32) then
             (some (y4_33, ftrial_33))
           else
             (some (y3_33, ftrial_33)))))
set_option maxHeartbeats 4000000 in
set_option maxRecDepth 100000 in
theorem c_X6_leave (l : Launch) (G : Gt) (ad : Nat → Nat) (ado : Nat → Nat → Nat) (f : Mem) (fnow : Mem) (ftrial : Mem) (x1 : Int32) (x2 : Int32) (r : Int32) (ftrialz : Mem) (hf : p_X6_leave f fnow ftrial x1 x2 = some (r, ftrialz)) (sz : Nat) : Met l yX6_leave wsX6_leave ({ frames := 8, cells := 0, slots := 0, locals := 172 }) (Pc0 G sz [.ref (ad 0), .int x1, .int x2] (wX6 G ad ado f ++ (wX0 G (ado 1) fnow ++ (wX0 G (ado 2) ftrial)))) (Qi0 G (va_A (wX6 G ad ado f ++ (wX0 G (ado 1) fnow ++ (wX0 G (ado 2) ftrial))) sz) r (wX6 G ad ado f ++ (wX0 G (ado 1) fnow ++ (wX0 G (ado 2) ftrialz)))) 0 0 (va_A (wX6 G ad ado f ++ (wX0 G (ado 1) fnow ++ (wX0 G (ado 2) ftrial))) sz) := by
  refine metP (Qf := fun A => Qi0 G A r (wX6 G ad ado f ++ (wX0 G (ado 1) fnow ++ (wX0 G (ado 2) ftrialz)))) cX6_leave 7 (some .int) (by decide) rfl (Nat.le_of_ble_eq_true rfl) ?_
  intro p e s m below meth c A ls hC hr hlocks hin hE hA hsz hP hD hS hl
  generalize hargs : ([.ref (ad 0), .int x1, .int x2] : List Value).toArray = args at hC ⊢
  obtain ⟨hx, hb, hml, hown, hts⟩ := id hC
  have hT : va_K G.1 vwCl (tyL G) s := hE.1
  have hRet : ∀ (r9 : Int32) (ftrial9 : Mem) (H : Heap) (locs : List Loc) (ls : Array Slot) (pc : Nat) (hK9 : (r9, ftrial9) = (r, ftrialz)) (hdg : decode cX6_leave pc = .ok (.ireturn, 1)), va_P G.1 vwCl (wX6 G ad ado f ++ (wX0 G (ado 1) fnow ++ (wX0 G (ado 2) ftrial9))) H → va_D A (wX6 G ad ado f ++ (wX0 G (ado 1) fnow ++ (wX0 G (ado 2) ftrial9))) → va_S A s.heap H locs → W p l e ({ frames := 8, cells := 0, slots := 0, locals := 172 }) s m args below meth c H locs 0 0 (MQ below (Qi0 G A r (wX6 G ad ado f ++ (wX0 G (ado 1) fnow ++ (wX0 G (ado 2) ftrialz)))) args s 0 0 A) (F0 m pc ls [.int r9]) := by
    intro r9 ftrial9 H locs ls pc hK9 hdg hP hD hS
    cases hK9
    exact W.iret hx hb hr (fun t ht hW => ⟨⟨r, (), rfl, rfl, by rw [ht]; exact hP, hD⟩, hS.F ht⟩) hS.2.2 hdg hlocks
  generalize MQ below (Qi0 G A r (wX6 G ad ado f ++ (wX0 G (ado 1) fnow ++ (wX0 G (ado 2) ftrialz)))) args s 0 0 A = Q at hRet ⊢
  have lk12 := hts (.fieldLink RX6 12 "FeatherShares" "now" "LFeatherShares$Flock;") (by decide +kernel)
  have inX6 : ∀ w ∈ u_ws RX6 TX6 11, w ∈ wsX6_leave := by decide +kernel
  have lk109 := va_Nw.use (A := args) rfl (hE.2.1 (RX6, 109, "FeatherShares$Flock", "trades", "I", "FeatherShares") (List.mem_of_getElem? (i := 8) rfl))
  have inX0 : ∀ w ∈ u_ws RX0 TX0 13, w ∈ wsX6_leave := by decide +kernel
  have hl : lv_has ls 7 [(0, .ref (ad 0)), (1, .int x1), (2, .int x2)] := hl
  have hK0 : (r, ftrialz) = (r, ftrialz) := rfl
  obtain ⟨res, hres, hK⟩ : ∃ res, p_X6_leave f fnow ftrial x1 x2 = some res ∧ res = (r, ftrialz) := ⟨_, hf, rfl⟩
  clear hf
  have hf := hres
  clear hres
  unfold p_X6_leave at hf
  refine lv_iload_n hx hb dX6_leave_0 rfl (lv_at hl 1 rfl) ?_
  obtain ⟨r1, hc1, hf⟩ := bd_e hf
  refine cl_z_ro (Wd := (wX6 G ad ado f ++ (wX0 G (ado 1) fnow ++ (wX0 G (ado 2) ftrial)))) (Wc := ([] : va_W)) [] rfl (va_runS (As := [.int x1]) (rest := []) hC (c_X6_isOwner l G x1 r1 hc1 _) (va_cwS 1 hts gX6_leave_X6_isOwner rfl rfl rfl (by decide +kernel) ⟨Nat.le_of_ble_eq_true rfl, Nat.le_of_ble_eq_true rfl⟩) ⟨Pc0_blind, fun U hU hW => Pc0_at (Wd := ([] : va_W)) hE (hP.subm [] rfl) (hD.sub [] (by decide) rfl) hU hW⟩ rfl rfl hl.1 rfl (lv_room (Nat.le_of_ble_eq_true rfl)) dX6_leave_1 ⟨Nat.zero_le _, Nat.zero_le _⟩) hS hA hP hD (fun H locs hn1 hP hD hS => ?_)
  refine lv_if_eq (tgt := 16) hx hb dX6_leave_4 (by decide) (fun hc => ?_) (fun hc => ?_)
  · have hf := if_t hf hc
    refine lv_iconst (v := (-1 : Int32)) hx hb dX6_leave_16 (ic_m1) ?_
    have hK9 := K0_of hf hK
    exact hRet (-1 : Int32) ftrial _ _ _ _ hK9 dX6_leave_17 hP hD hS
  · have hf := if_f hf hc
    refine lv_iload_n hx hb dX6_leave_7 rfl (lv_at hl 2 rfl) ?_
    refine lv_iconst (v := (nI 0)) hx hb dX6_leave_8 (ic_0) ?_
    refine lv_iconst (v := (nI 1)) hx hb dX6_leave_9 (ic_1) ?_
    obtain ⟨r10, hc10, hf⟩ := bd_e hf
    refine cl_z_ro (Wd := (wX6 G ad ado f ++ (wX0 G (ado 1) fnow ++ (wX0 G (ado 2) ftrial)))) (Wc := ([] : va_W)) [] rfl (va_runS (As := [.int x2, .int (nI 0), .int (nI 1)]) (rest := []) hC (c_X6_isWithin l G x2 (nI 0) (nI 1) r10 hc10 _) (va_cwS 3 hts gX6_leave_X6_isWithin rfl rfl rfl (by decide +kernel) ⟨Nat.le_of_ble_eq_true rfl, Nat.le_of_ble_eq_true rfl⟩) ⟨Pc0_blind, fun U hU hW => Pc0_at (Wd := ([] : va_W)) hE (hP.subm [] rfl) (hD.sub [] (by decide) rfl) hU hW⟩ rfl rfl hl.1 rfl (lv_room (Nat.le_of_ble_eq_true rfl)) dX6_leave_10 ⟨Nat.zero_le _, Nat.zero_le _⟩) hS hA hP hD (fun H locs hn10 hP hD hS => ?_)
    refine lv_if_ne (tgt := 18) hx hb dX6_leave_13 (by decide) (fun hc => ?_) (fun hc => ?_)
    · have hf := if_f hf hc
      refine lv_aload_n hx hb dX6_leave_18 rfl (lv_at hl 0 rfl) ?_
      refine lv_bipush (v := (-4 : Int32)) hx hb dX6_leave_19 (bi_m4) ?_
      refine lv_iload_n hx hb dX6_leave_21 rfl (lv_at hl 1 rfl) ?_
      obtain ⟨⟨r22, ftrial_22⟩, hc22, hf⟩ := bd_e hf
      try dsimp only at hf
      refine cl_i_same (Wd := (wX6 G ad ado f ++ (wX0 G (ado 1) fnow ++ (wX0 G (ado 2) ftrial)))) (W' := (wX6 G ad ado f ++ (wX0 G (ado 1) fnow ++ (wX0 G (ado 2) ftrial_22)))) (va_runV (As := [.int (-4 : Int32), .int x1]) (rest := []) hC (c_X6_worthByPlanWithout l G ad ado f fnow ftrial (-4 : Int32) x1 r22 ftrial_22 hc22 _) (cwV 2 hts gX6_leave_X6_worthByPlanWithout rfl rfl rfl (by decide +kernel) ⟨Nat.le_of_ble_eq_true rfl, Nat.le_of_ble_eq_true rfl⟩) ⟨Pc0_blind, va_recv hT hP (q0 := 0) (ci := 6) rfl rfl, fun U hU hW => Pc0_at hE hP hD hU hW⟩ rfl rfl hl.1 rfl (lv_room (Nat.le_of_ble_eq_true rfl)) dX6_leave_22 ⟨Nat.zero_le _, Nat.zero_le _⟩) hS hA hD (fun H locs hP hD hS => ?_)
      refine lv_istore_n (lv' := [(3, .int r22), (0, .ref (ad 0)), (1, .int x1), (2, .int x2)]) hx hb dX6_leave_25 rfl hl (by decide) rfl (fun ls hl => ?_)
      refine lv_bipush (v := (-4 : Int32)) hx hb dX6_leave_26 (bi_m4) ?_
      refine lv_istore (lv' := [(4, .int (-4 : Int32)), (3, .int r22), (0, .ref (ad 0)), (1, .int x1), (2, .int x2)]) hx hb dX6_leave_28 hl (by decide) rfl (fun ls hl => ?_)
      refine lv_iconst (v := (nI 0)) hx hb dX6_leave_30 (ic_0) ?_
      refine lv_istore (lv' := [(5, .int (nI 0)), (4, .int (-4 : Int32)), (3, .int r22), (0, .ref (ad 0)), (1, .int x1), (2, .int x2)]) hx hb dX6_leave_31 hl (by decide) rfl (fun ls hl => ?_)
      obtain ⟨⟨y3_33, y4_33, ftrial_33⟩, hlp, hf⟩ := bd_e hf
      refine lp_W1 (p_X6_leave_L33 f fnow x1 x2) (fun z => match z with | (x3, x4, x5, ftrial_) => ∀ (H : Heap) (locs : List Loc) (ls : Array Slot), va_P G.1 vwCl (wX6 G ad ado f ++ (wX0 G (ado 1) fnow ++ (wX0 G (ado 2) ftrial_))) H → va_D A (wX6 G ad ado f ++ (wX0 G (ado 1) fnow ++ (wX0 G (ado 2) ftrial_))) → va_S A s.heap H locs → lv_has ls 7 [(0, .ref (ad 0)), (1, .int x1), (2, .int x2), (3, .int x3), (4, .int x4), (5, .int x5)] → W p l e ({ frames := 8, cells := 0, slots := 0, locals := 172 }) s m args below meth c H locs 0 0 Q (F0 m 33 ls [])) (fun z => match z with | (y3_33, y4_33, ftrial_33) => ∀ (H : Heap) (locs : List Loc) (ls : Array Slot), va_P G.1 vwCl (wX6 G ad ado f ++ (wX0 G (ado 1) fnow ++ (wX0 G (ado 2) ftrial_33))) H → va_D A (wX6 G ad ado f ++ (wX0 G (ado 1) fnow ++ (wX0 G (ado 2) ftrial_33))) → va_S A s.heap H locs → lv_has ls 7 [(2, .int x2), (3, .int y3_33), (4, .int y4_33)] → W p l e ({ frames := 8, cells := 0, slots := 0, locals := 172 }) s m args below meth c H locs 0 0 Q (F0 m 73 ls [])) ?_ hlp ?_ _ _ _ hP hD hS (lv_sub hl [3, 4, 5, 2, 1, 0] rfl)
      · clear hlp hf hK hP hD hS hl
        intro K33 hW33 hX33 
        rintro ⟨x3, x4, x5, ftrial_⟩ res hf hK H locs ls hP hD hS hl
        unfold p_X6_leave_L33 at hf
        dsimp only at hf
        refine lv_iload hx hb dX6_leave_33 (lv_at hl 5 rfl) ?_
        refine lv_aload_n hx hb dX6_leave_35 rfl (lv_at hl 0 rfl) ?_
        refine va_get (C := RX6) (T := TX6) (N := 11) (ci := 6) (v := .ref ((ado 1) 0)) hx hb hts inX6 hown hT hP 0 rfl rfl 0 (Nat.le_of_ble_eq_true rfl) lk12 (fun _ h => h) rfl dX6_leave_36 ?_
        refine va_getN (C := RX0) (T := TX0) (N := 13) (ci := 0) (v := .int (fnow 0 2)) hx hb hts inX0 hown hT hP 4 rfl rfl 2 (Nat.le_of_ble_eq_true rfl) lk109 (fun _ h => h) rfl dX6_leave_39 ?_
        refine lv_icmp_ge (tgt := 73) hx hb dX6_leave_42 (by decide) (fun hc => ?_) (fun hc => ?_)
        · have hf := if_t hf hc
          have hK9 := K_of hf hK
          have hK9 := hX33 _ hK9
          exact hK9 _ _ _ hP hD hS (lv_sub hl [2, 3, 4] rfl)
        · have hf := if_f hf hc
          refine lv_aload_n hx hb dX6_leave_45 rfl (lv_at hl 0 rfl) ?_
          refine lv_iload hx hb dX6_leave_46 (lv_at hl 5 rfl) ?_
          refine lv_iload_n hx hb dX6_leave_48 rfl (lv_at hl 1 rfl) ?_
          obtain ⟨⟨r49, ftrial_49⟩, hc49, hf⟩ := bd_e hf
          try dsimp only at hf
          refine cl_i_same (Wd := (wX6 G ad ado f ++ (wX0 G (ado 1) fnow ++ (wX0 G (ado 2) ftrial_)))) (W' := (wX6 G ad ado f ++ (wX0 G (ado 1) fnow ++ (wX0 G (ado 2) ftrial_49)))) (va_runV (As := [.int x5, .int x1]) (rest := []) hC (c_X6_worthByPlanWithout l G ad ado f fnow ftrial_ x5 x1 r49 ftrial_49 hc49 _) (cwV 2 hts gX6_leave_X6_worthByPlanWithout rfl rfl rfl (by decide +kernel) ⟨Nat.le_of_ble_eq_true rfl, Nat.le_of_ble_eq_true rfl⟩) ⟨Pc0_blind, va_recv hT hP (q0 := 0) (ci := 6) rfl rfl, fun U hU hW => Pc0_at hE hP hD hU hW⟩ rfl rfl hl.1 rfl (lv_room (Nat.le_of_ble_eq_true rfl)) dX6_leave_49 ⟨Nat.zero_le _, Nat.zero_le _⟩) hS hA hD (fun H locs hP hD hS => ?_)
          refine lv_istore (lv' := [(6, .int r49), (0, .ref (ad 0)), (1, .int x1), (2, .int x2), (3, .int x3), (4, .int x4), (5, .int x5)]) hx hb dX6_leave_52 hl (by decide) rfl (fun ls hl => ?_)
          refine lv_iload hx hb dX6_leave_54 (lv_at hl 0 rfl) ?_
          refine lv_iload_n hx hb dX6_leave_56 rfl (lv_at hl 4 rfl) ?_
          refine lv_icmp_le (tgt := 67) hx hb dX6_leave_57 (by decide) (fun hc => ?_) (fun hc => ?_)
          · have hf := if_t hf hc
            refine lv_iinc (v := (x5 + nI 1)) (lv' := [(5, .int (x5 + nI 1)), (6, .int r49), (0, .ref (ad 0)), (1, .int x1), (2, .int x2), (3, .int x3), (4, .int x4)]) hx hb dX6_leave_67 hl (k := 6) rfl (ii_x 1 _) (by decide) rfl (fun ls hl => ?_)
            refine lv_goto (tgt := 33) hx hb dX6_leave_70 (by decide) ?_
            have hK9 := K_of hf hK
            have hK9 := hW33 _ hK9
            exact hK9 _ _ _ hP hD hS (lv_sub hl [2, 3, 4, 5, 6, 0] rfl)
          · have hf := if_f hf hc
            refine lv_iload hx hb dX6_leave_60 (lv_at hl 0 rfl) ?_
            refine lv_istore_n (lv' := [(3, .int r49), (6, .int r49), (0, .ref (ad 0)), (1, .int x1), (2, .int x2), (4, .int x4), (5, .int x5)]) hx hb dX6_leave_62 rfl hl (by decide) rfl (fun ls hl => ?_)
            refine lv_iload hx hb dX6_leave_63 (lv_at hl 6 rfl) ?_
            refine lv_istore (lv' := [(4, .int x5), (3, .int r49), (6, .int r49), (0, .ref (ad 0)), (1, .int x1), (2, .int x2), (5, .int x5)]) hx hb dX6_leave_65 hl (by decide) rfl (fun ls hl => ?_)
            refine lv_iinc (v := (x5 + nI 1)) (lv' := [(5, .int (x5 + nI 1)), (4, .int x5), (3, .int r49), (6, .int r49), (0, .ref (ad 0)), (1, .int x1), (2, .int x2)]) hx hb dX6_leave_67 hl (k := 6) rfl (ii_x 1 _) (by decide) rfl (fun ls hl => ?_)
            refine lv_goto (tgt := 33) hx hb dX6_leave_70 (by decide) ?_
            have hK9 := K_of hf hK
            have hK9 := hW33 _ hK9
            exact hK9 _ _ _ hP hD hS (lv_sub hl [4, 5, 6, 2, 1, 0] rfl)
      · try dsimp only at hf
        show ∀ (H : Heap) (locs : List Loc) (ls : Array Slot), va_P G.1 vwCl (wX6 G ad ado f ++ (wX0 G (ado 1) fnow ++ (wX0 G (ado 2) ftrial_33))) H → va_D A (wX6 G ad ado f ++ (wX0 G (ado 1) fnow ++ (wX0 G (ado 2) ftrial_33))) → va_S A s.heap H locs → lv_has ls 7 [(2, .int x2), (3, .int y3_33), (4, .int y4_33)] → W p l e ({ frames := 8, cells := 0, slots := 0, locals := 172 }) s m args below meth c H locs 0 0 Q (F0 m 73 ls [])
        intro H locs ls hP hD hS hl
        refine lv_iload_n hx hb dX6_leave_73 rfl (lv_at hl 0 rfl) ?_
        refine lv_if_eq (tgt := 84) hx hb dX6_leave_74 (by decide) (fun hc => ?_) (fun hc => ?_)
        · have hf := if_t hf hc
          refine lv_iload hx hb dX6_leave_84 (lv_at hl 2 rfl) ?_
          refine lv_goto (tgt := 90) hx hb dX6_leave_86 (by decide) ?_
          have hK9 := K0_of hf hK
          exact hRet y4_33 ftrial_33 _ _ _ _ hK9 dX6_leave_90 hP hD hS
        · have hf := if_f hf hc
          refine lv_iload hx hb dX6_leave_77 (lv_at hl 2 rfl) ?_
          refine lv_bipush (v := (-4 : Int32)) hx hb dX6_leave_79 (bi_m4) ?_
          refine lv_icmp_ne (tgt := 89) hx hb dX6_leave_81 (by decide) (fun hc => ?_) (fun hc => ?_)
          · have hf := if_f hf hc
            refine lv_iload_n hx hb dX6_leave_89 rfl (lv_at hl 1 rfl) ?_
            have hK9 := K0_of hf hK
            exact hRet y3_33 ftrial_33 _ _ _ _ hK9 dX6_leave_90 hP hD hS
          · have hf := if_t hf hc
            refine lv_iload hx hb dX6_leave_84 (lv_at hl 2 rfl) ?_
            refine lv_goto (tgt := 90) hx hb dX6_leave_86 (by decide) ?_
            have hK9 := K0_of hf hK
            exact hRet y4_33 ftrial_33 _ _ _ _ hK9 dX6_leave_90 hP hD hS
    · have hf := if_t hf hc
      refine lv_iconst (v := (-1 : Int32)) hx hb dX6_leave_16 (ic_m1) ?_
      have hK9 := K0_of hf hK
      exact hRet (-1 : Int32) ftrial _ _ _ _ hK9 dX6_leave_17 hP hD hS
noncomputable def p_X6_swings (f : Mem) (fnow : Mem) (x1 : Int32) (x2 : Int32) : Option (Int32) :=
  Option.bind (p_X0_hasGoose fnow x1) <| fun r5 =>
  if r5 = 0 then
    (some (-1 : Int32))
  else
    (Option.bind (p_X6_isOwner x2) <| fun r12 =>
     if r12 = 0 then
       (some (-1 : Int32))
     else
       (Option.bind (p_X0_setsSwungBy fnow x1 x2) <| fun r24 =>
        some r24))
set_option maxHeartbeats 4000000 in
set_option maxRecDepth 100000 in
theorem c_X6_swings (l : Launch) (G : Gt) (ad : Nat → Nat) (ado : Nat → Nat → Nat) (f : Mem) (fnow : Mem) (x1 : Int32) (x2 : Int32) (r : Int32) (hf : p_X6_swings f fnow x1 x2 = some r) (sz : Nat) : Met l yX6_swings wsX6_swings ({ frames := 5, cells := 0, slots := 0, locals := 106 }) (Pc0 G sz [.ref (ad 0), .int x1, .int x2] (wX6 G ad ado f ++ (wX0 G (ado 1) fnow))) (Qi0 G (va_A (wX6 G ad ado f ++ (wX0 G (ado 1) fnow)) sz) r (wX6 G ad ado f ++ (wX0 G (ado 1) fnow))) 0 0 (va_A (wX6 G ad ado f ++ (wX0 G (ado 1) fnow)) sz) := by
  refine metP (Qf := fun A => Qi0 G A r (wX6 G ad ado f ++ (wX0 G (ado 1) fnow))) cX6_swings 3 (some .int) (by decide) rfl (Nat.le_of_ble_eq_true rfl) ?_
  intro p e s m below meth c A ls hC hr hlocks hin hE hA hsz hP hD hS hl
  generalize hargs : ([.ref (ad 0), .int x1, .int x2] : List Value).toArray = args at hC ⊢
  obtain ⟨hx, hb, hml, hown, hts⟩ := id hC
  have hT : va_K G.1 vwCl (tyL G) s := hE.1
  have hRet : ∀ (r9 : Int32) (H : Heap) (locs : List Loc) (ls : Array Slot) (pc : Nat) (hK9 : r9 = r) (hdg : decode cX6_swings pc = .ok (.ireturn, 1)), va_P G.1 vwCl (wX6 G ad ado f ++ (wX0 G (ado 1) fnow)) H → va_D A (wX6 G ad ado f ++ (wX0 G (ado 1) fnow)) → va_S A s.heap H locs → W p l e ({ frames := 5, cells := 0, slots := 0, locals := 106 }) s m args below meth c H locs 0 0 (MQ below (Qi0 G A r (wX6 G ad ado f ++ (wX0 G (ado 1) fnow))) args s 0 0 A) (F0 m pc ls [.int r9]) := by
    intro r9 H locs ls pc hK9 hdg hP hD hS
    cases hK9
    exact W.iret hx hb hr (fun t ht hW => ⟨⟨r, (), rfl, rfl, by rw [ht]; exact hP, hD⟩, hS.F ht⟩) hS.2.2 hdg hlocks
  generalize MQ below (Qi0 G A r (wX6 G ad ado f ++ (wX0 G (ado 1) fnow))) args s 0 0 A = Q at hRet ⊢
  have lk12 := hts (.fieldLink RX6 12 "FeatherShares" "now" "LFeatherShares$Flock;") (by decide +kernel)
  have inX6 : ∀ w ∈ u_ws RX6 TX6 11, w ∈ wsX6_swings := by decide +kernel
  have hl : lv_has ls 3 [(0, .ref (ad 0)), (1, .int x1), (2, .int x2)] := hl
  have hK0 : r = r := rfl
  obtain ⟨res, hres, hK⟩ : ∃ res, p_X6_swings f fnow x1 x2 = some res ∧ res = r := ⟨_, hf, rfl⟩
  clear hf
  have hf := hres
  clear hres
  unfold p_X6_swings at hf
  refine lv_aload_n hx hb dX6_swings_0 rfl (lv_at hl 0 rfl) ?_
  refine va_get (C := RX6) (T := TX6) (N := 11) (ci := 6) (v := .ref ((ado 1) 0)) hx hb hts inX6 hown hT hP 0 rfl rfl 0 (Nat.le_of_ble_eq_true rfl) lk12 (fun _ h => h) rfl dX6_swings_1 ?_
  refine lv_iload_n hx hb dX6_swings_4 rfl (lv_at hl 1 rfl) ?_
  obtain ⟨r5, hc5, hf⟩ := bd_e hf
  refine cl_z_ro (Wd := (wX6 G ad ado f ++ (wX0 G (ado 1) fnow))) (Wc := (wX0 G (ado 1) fnow)) [4, 5, 6, 7, 8, 9, 10, 11, 12, 13, 14] rfl (va_runVN (As := [.int x1]) (rest := []) hC (c_X0_hasGoose l G (ado 1) fnow x1 r5 hc5 _) ⟨va_cnB 1 hts gX6_swings_X0_hasGoose_n126 rfl rfl rfl (hE.2.2 (RX6, 126, yX0_hasGoose, "FeatherShares") (List.mem_of_getElem? (i := 10) rfl)) (hts (.initialized RX0) (by decide +kernel)) (by decide +kernel) ⟨Nat.le_of_ble_eq_true rfl, Nat.le_of_ble_eq_true rfl⟩, hts (.instanceMethod yX0_hasGoose) (by decide +kernel), hts (.selects RX0 yX0_hasGoose yX0_hasGoose) (by decide +kernel)⟩ ⟨Pc0_blind, va_recv hT hP (q0 := 4) (ci := 0) rfl rfl, fun U hU hW => Pc0_at (Wd := (wX0 G (ado 1) fnow)) hE (hP.subm [4, 5, 6, 7, 8, 9, 10, 11, 12, 13, 14] rfl) (hD.sub [4, 5, 6, 7, 8, 9, 10, 11, 12, 13, 14] (by decide) rfl) hU hW⟩ rfl rfl hl.1 rfl (lv_room (Nat.le_of_ble_eq_true rfl)) dX6_swings_5 ⟨Nat.zero_le _, Nat.zero_le _⟩) hS hA hP hD (fun H locs hn5 hP hD hS => ?_)
  refine lv_if_eq (tgt := 30) hx hb dX6_swings_8 (by decide) (fun hc => ?_) (fun hc => ?_)
  · have hf := if_t hf hc
    refine lv_iconst (v := (-1 : Int32)) hx hb dX6_swings_30 (ic_m1) ?_
    have hK9 := K0_of hf hK
    exact hRet (-1 : Int32) _ _ _ _ hK9 dX6_swings_31 hP hD hS
  · have hf := if_f hf hc
    refine lv_iload_n hx hb dX6_swings_11 rfl (lv_at hl 2 rfl) ?_
    obtain ⟨r12, hc12, hf⟩ := bd_e hf
    refine cl_z_ro (Wd := (wX6 G ad ado f ++ (wX0 G (ado 1) fnow))) (Wc := ([] : va_W)) [] rfl (va_runS (As := [.int x2]) (rest := []) hC (c_X6_isOwner l G x2 r12 hc12 _) (va_cwS 1 hts gX6_swings_X6_isOwner rfl rfl rfl (by decide +kernel) ⟨Nat.le_of_ble_eq_true rfl, Nat.le_of_ble_eq_true rfl⟩) ⟨Pc0_blind, fun U hU hW => Pc0_at (Wd := ([] : va_W)) hE (hP.subm [] rfl) (hD.sub [] (by decide) rfl) hU hW⟩ rfl rfl hl.1 rfl (lv_room (Nat.le_of_ble_eq_true rfl)) dX6_swings_12 ⟨Nat.zero_le _, Nat.zero_le _⟩) hS hA hP hD (fun H locs hn12 hP hD hS => ?_)
    refine lv_if_eq (tgt := 30) hx hb dX6_swings_15 (by decide) (fun hc => ?_) (fun hc => ?_)
    · have hf := if_t hf hc
      refine lv_iconst (v := (-1 : Int32)) hx hb dX6_swings_30 (ic_m1) ?_
      have hK9 := K0_of hf hK
      exact hRet (-1 : Int32) _ _ _ _ hK9 dX6_swings_31 hP hD hS
    · have hf := if_f hf hc
      refine lv_aload_n hx hb dX6_swings_18 rfl (lv_at hl 0 rfl) ?_
      refine va_get (C := RX6) (T := TX6) (N := 11) (ci := 6) (v := .ref ((ado 1) 0)) hx hb hts inX6 hown hT hP 0 rfl rfl 0 (Nat.le_of_ble_eq_true rfl) lk12 (fun _ h => h) rfl dX6_swings_19 ?_
      refine lv_iload_n hx hb dX6_swings_22 rfl (lv_at hl 1 rfl) ?_
      refine lv_iload_n hx hb dX6_swings_23 rfl (lv_at hl 2 rfl) ?_
      obtain ⟨r24, hc24, hf⟩ := bd_e hf
      refine cl_i_ro (Wd := (wX6 G ad ado f ++ (wX0 G (ado 1) fnow))) (Wc := (wX0 G (ado 1) fnow)) [4, 5, 6, 7, 8, 9, 10, 11, 12, 13, 14] rfl (va_runVN (As := [.int x1, .int x2]) (rest := []) hC (c_X0_setsSwungBy l G (ado 1) fnow x1 x2 r24 hc24 _) ⟨va_cnB 2 hts gX6_swings_X0_setsSwungBy_n238 rfl rfl rfl (hE.2.2 (RX6, 238, yX0_setsSwungBy, "FeatherShares") (List.mem_of_getElem? (i := 29) rfl)) (hts (.initialized RX0) (by decide +kernel)) (by decide +kernel) ⟨Nat.le_of_ble_eq_true rfl, Nat.le_of_ble_eq_true rfl⟩, hts (.instanceMethod yX0_setsSwungBy) (by decide +kernel), hts (.selects RX0 yX0_setsSwungBy yX0_setsSwungBy) (by decide +kernel)⟩ ⟨Pc0_blind, va_recv hT hP (q0 := 4) (ci := 0) rfl rfl, fun U hU hW => Pc0_at (Wd := (wX0 G (ado 1) fnow)) hE (hP.subm [4, 5, 6, 7, 8, 9, 10, 11, 12, 13, 14] rfl) (hD.sub [4, 5, 6, 7, 8, 9, 10, 11, 12, 13, 14] (by decide) rfl) hU hW⟩ rfl rfl hl.1 rfl (lv_room (Nat.le_of_ble_eq_true rfl)) dX6_swings_24 ⟨Nat.zero_le _, Nat.zero_le _⟩) hS hA hP hD (fun H locs hP hD hS => ?_)
      refine lv_goto (tgt := 31) hx hb dX6_swings_27 (by decide) ?_
      have hK9 := K0_of hf hK
      exact hRet r24 _ _ _ _ hK9 dX6_swings_31 hP hD hS
noncomputable def p_X6_commonDivisor_L9  (z : Int64 × Int64 × Int32) : Option ((Int64 × Int64 × Int32) ⊕ Int64) :=
  match z with
  | (x4, x6, x8) =>
    if (nI 200) ≤ x8 then
      (some (Sum.inr x4))
    else
      (if (lg_cmp x6 (lN 0)) = 0 then
         (some (Sum.inr x4))
       else
         (gd (nzL x6) <|
          some (Sum.inl (x6, (x4 - x4 / x6 * x6), (x8 + nI 1)))))
noncomputable def p_X6_commonDivisor (x0 : Int64) (x2 : Int64) : Option (Int64) :=
  Option.bind (lp (p_X6_commonDivisor_L9) (x0, x2, (nI 0))) <| fun y4_9 =>
  some y4_9
set_option maxHeartbeats 4000000 in
set_option maxRecDepth 100000 in
theorem c_X6_commonDivisor (l : Launch) (G : Gt)  (x0 : Int64) (x2 : Int64) (r : Int64) (hf : p_X6_commonDivisor x0 x2 = some r) (sz : Nat) : Met l yX6_commonDivisor wsX6_commonDivisor ({ frames := 1, cells := 0, slots := 0, locals := 12 }) (Pc0 G sz [.long x0, .long x2] ([] : va_W)) (Ql0 G (va_A ([] : va_W) sz) r ([] : va_W)) 0 0 (va_A ([] : va_W) sz) := by
  refine metP (Qf := fun A => Ql0 G A r ([] : va_W)) cX6_commonDivisor 11 (some .long) (by decide) rfl (Nat.le_of_ble_eq_true rfl) ?_
  intro p e s m below meth c A ls hC hr hlocks hin hE hA hsz hP hD hS hl
  generalize hargs : ([.long x0, .long x2] : List Value).toArray = args at hC ⊢
  obtain ⟨hx, hb, hml, hown, hts⟩ := id hC
  have hT : va_K G.1 vwCl (tyL G) s := hE.1
  have hRet : ∀ (r9 : Int64) (H : Heap) (locs : List Loc) (ls : Array Slot) (pc : Nat) (hK9 : r9 = r) (hdg : decode cX6_commonDivisor pc = .ok (.lreturn, 1)), va_P G.1 vwCl ([] : va_W) H → va_D A ([] : va_W) → va_S A s.heap H locs → W p l e ({ frames := 1, cells := 0, slots := 0, locals := 12 }) s m args below meth c H locs 0 0 (MQ below (Ql0 G A r ([] : va_W)) args s 0 0 A) (F0 m pc ls [.long r9]) := by
    intro r9 H locs ls pc hK9 hdg hP hD hS
    cases hK9
    exact W.lret hx hb hr (fun t ht hW => ⟨⟨r, (), rfl, rfl, by rw [ht]; exact hP, hD⟩, hS.F ht⟩) hS.2.2 hdg hlocks
  generalize MQ below (Ql0 G A r ([] : va_W)) args s 0 0 A = Q at hRet ⊢
  have hl : lv_has ls 11 [(0, .long x0), (2, .long x2)] := hl
  have hK0 : r = r := rfl
  obtain ⟨res, hres, hK⟩ : ∃ res, p_X6_commonDivisor x0 x2 = some res ∧ res = r := ⟨_, hf, rfl⟩
  clear hf
  have hf := hres
  clear hres
  unfold p_X6_commonDivisor at hf
  refine lv_lload_n hx hb dX6_commonDivisor_0 rfl (lv_at hl 0 rfl) ?_
  refine lv_lstore (lv' := [(4, .long x0), (0, .long x0), (2, .long x2)]) hx hb dX6_commonDivisor_1 hl (by decide) rfl (fun ls hl => ?_)
  refine lv_lload_n hx hb dX6_commonDivisor_3 rfl (lv_at hl 2 rfl) ?_
  refine lv_lstore (lv' := [(6, .long x2), (4, .long x0), (0, .long x0), (2, .long x2)]) hx hb dX6_commonDivisor_4 hl (by decide) rfl (fun ls hl => ?_)
  refine lv_iconst (v := (nI 0)) hx hb dX6_commonDivisor_6 (ic_0) ?_
  refine lv_istore (lv' := [(8, .int (nI 0)), (6, .long x2), (4, .long x0), (0, .long x0), (2, .long x2)]) hx hb dX6_commonDivisor_7 hl (by decide) rfl (fun ls hl => ?_)
  obtain ⟨y4_9, hlp, hf⟩ := bd_e hf
  refine lp_W1 (p_X6_commonDivisor_L9) (fun z => match z with | (x4, x6, x8) => ∀ (H : Heap) (locs : List Loc) (ls : Array Slot), va_P G.1 vwCl ([] : va_W) H → va_D A ([] : va_W) → va_S A s.heap H locs → lv_has ls 11 [(4, .long x4), (6, .long x6), (8, .int x8)] → W p l e ({ frames := 1, cells := 0, slots := 0, locals := 12 }) s m args below meth c H locs 0 0 Q (F0 m 9 ls [])) (fun (y4_9 : Int64) => ∀ (H : Heap) (locs : List Loc) (ls : Array Slot), va_P G.1 vwCl ([] : va_W) H → va_D A ([] : va_W) → va_S A s.heap H locs → lv_has ls 11 [(4, .long y4_9)] → W p l e ({ frames := 1, cells := 0, slots := 0, locals := 12 }) s m args below meth c H locs 0 0 Q (F0 m 45 ls [])) ?_ hlp ?_ _ _ _ hP hD hS (lv_sub hl [2, 1, 0] rfl)
  · clear hlp hf hK hP hD hS hl
    intro K9 hW9 hX9 
    rintro ⟨x4, x6, x8⟩ res hf hK H locs ls hP hD hS hl
    unfold p_X6_commonDivisor_L9 at hf
    dsimp only at hf
    refine lv_iload hx hb dX6_commonDivisor_9 (lv_at hl 2 rfl) ?_
    refine lv_sipush (v := (nI 200)) hx hb dX6_commonDivisor_11 (si_200) ?_
    refine lv_icmp_ge (tgt := 45) hx hb dX6_commonDivisor_14 (by decide) (fun hc => ?_) (fun hc => ?_)
    · have hf := if_t hf hc
      have hK9 := K_of hf hK
      have hK9 := hX9 _ hK9
      exact hK9 _ _ _ hP hD hS (lv_sub hl [0] rfl)
    · have hf := if_f hf hc
      refine lv_lload hx hb dX6_commonDivisor_17 (lv_at hl 1 rfl) ?_
      refine lv_lconst (v := (lN 0)) hx hb dX6_commonDivisor_19 rfl ?_
      refine W.lcmp hx hb dX6_commonDivisor_20 ?_
      refine lv_if_eq (tgt := 45) hx hb dX6_commonDivisor_21 (by decide) (fun hc => ?_) (fun hc => ?_)
      · have hf := if_t hf hc
        have hK9 := K_of hf hK
        have hK9 := hX9 _ hK9
        exact hK9 _ _ _ hP hD hS (lv_sub hl [0] rfl)
      · have hf := if_f hf hc
        refine lv_lload hx hb dX6_commonDivisor_24 (lv_at hl 0 rfl) ?_
        refine lv_lload hx hb dX6_commonDivisor_26 (lv_at hl 1 rfl) ?_
        obtain ⟨hg, hf⟩ := gd_e hf
        refine lv_lrem hx hb dX6_commonDivisor_28 (nzL_e hg) ?_
        refine lv_lstore (lv' := [(9, .long (x4 - x4 / x6 * x6)), (4, .long x4), (6, .long x6), (8, .int x8)]) hx hb dX6_commonDivisor_29 hl (by decide) rfl (fun ls hl => ?_)
        refine lv_lload hx hb dX6_commonDivisor_31 (lv_at hl 2 rfl) ?_
        refine lv_lstore (lv' := [(4, .long x6), (9, .long (x4 - x4 / x6 * x6)), (6, .long x6), (8, .int x8)]) hx hb dX6_commonDivisor_33 hl (by decide) rfl (fun ls hl => ?_)
        refine lv_lload hx hb dX6_commonDivisor_35 (lv_at hl 1 rfl) ?_
        refine lv_lstore (lv' := [(6, .long (x4 - x4 / x6 * x6)), (4, .long x6), (9, .long (x4 - x4 / x6 * x6)), (8, .int x8)]) hx hb dX6_commonDivisor_37 hl (by decide) rfl (fun ls hl => ?_)
        refine lv_iinc (v := (x8 + nI 1)) (lv' := [(8, .int (x8 + nI 1)), (6, .long (x4 - x4 / x6 * x6)), (4, .long x6), (9, .long (x4 - x4 / x6 * x6))]) hx hb dX6_commonDivisor_39 hl (k := 3) rfl (ii_x 1 _) (by decide) rfl (fun ls hl => ?_)
        refine lv_goto (tgt := 9) hx hb dX6_commonDivisor_42 (by decide) ?_
        have hK9 := K_of hf hK
        have hK9 := hW9 _ hK9
        exact hK9 _ _ _ hP hD hS (lv_sub hl [2, 1, 0] rfl)
  · try dsimp only at hf
    show ∀ (H : Heap) (locs : List Loc) (ls : Array Slot), va_P G.1 vwCl ([] : va_W) H → va_D A ([] : va_W) → va_S A s.heap H locs → lv_has ls 11 [(4, .long y4_9)] → W p l e ({ frames := 1, cells := 0, slots := 0, locals := 12 }) s m args below meth c H locs 0 0 Q (F0 m 45 ls [])
    intro H locs ls hP hD hS hl
    refine lv_lload hx hb dX6_commonDivisor_45 (lv_at hl 0 rfl) ?_
    have hK9 := K0_of hf hK
    exact hRet y4_9 _ _ _ _ hK9 dX6_commonDivisor_47 hP hD hS
noncomputable def p_X6_partOfFraction_B21 (x5 : Int64) (s0 : Int64) : Option (Int64) :=
  gd (nzL x5) <|
  some (s0 / x5)
noncomputable def p_X6_partOfFraction (x0 : Int64) (x2 : Int64) (x4 : Int32) : Option (Int64) :=
  Option.bind (p_X6_commonDivisor x0 x2) <| fun r3 =>
  if x4 = 0 then
    (p_X6_partOfFraction_B21 (if r3 < (lN 1) then (lN 1) else r3) x0)
  else
    (p_X6_partOfFraction_B21 (if r3 < (lN 1) then (lN 1) else r3) x2)
set_option maxHeartbeats 4000000 in
set_option maxRecDepth 100000 in
theorem c_X6_partOfFraction (l : Launch) (G : Gt)  (x0 : Int64) (x2 : Int64) (x4 : Int32) (r : Int64) (hf : p_X6_partOfFraction x0 x2 x4 = some r) (sz : Nat) : Met l yX6_partOfFraction wsX6_partOfFraction ({ frames := 2, cells := 0, slots := 0, locals := 42 }) (Pc0 G sz [.long x0, .long x2, .int x4] ([] : va_W)) (Ql0 G (va_A ([] : va_W) sz) r ([] : va_W)) 0 0 (va_A ([] : va_W) sz) := by
  refine metP (Qf := fun A => Ql0 G A r ([] : va_W)) cX6_partOfFraction 7 (some .long) (by decide) rfl (Nat.le_of_ble_eq_true rfl) ?_
  intro p e s m below meth c A ls hC hr hlocks hin hE hA hsz hP hD hS hl
  generalize hargs : ([.long x0, .long x2, .int x4] : List Value).toArray = args at hC ⊢
  obtain ⟨hx, hb, hml, hown, hts⟩ := id hC
  have hT : va_K G.1 vwCl (tyL G) s := hE.1
  have hRet : ∀ (r9 : Int64) (H : Heap) (locs : List Loc) (ls : Array Slot) (pc : Nat) (hK9 : r9 = r) (hdg : decode cX6_partOfFraction pc = .ok (.lreturn, 1)), va_P G.1 vwCl ([] : va_W) H → va_D A ([] : va_W) → va_S A s.heap H locs → W p l e ({ frames := 2, cells := 0, slots := 0, locals := 42 }) s m args below meth c H locs 0 0 (MQ below (Ql0 G A r ([] : va_W)) args s 0 0 A) (F0 m pc ls [.long r9]) := by
    intro r9 H locs ls pc hK9 hdg hP hD hS
    cases hK9
    exact W.lret hx hb hr (fun t ht hW => ⟨⟨r, (), rfl, rfl, by rw [ht]; exact hP, hD⟩, hS.F ht⟩) hS.2.2 hdg hlocks
  generalize MQ below (Ql0 G A r ([] : va_W)) args s 0 0 A = Q at hRet ⊢
  have hl : lv_has ls 7 [(0, .long x0), (2, .long x2), (4, .int x4)] := hl
  have hK0 : r = r := rfl
  have hB21 : ∀ (x5 : Int64) (s0 : Int64) (res : Int64) (hf : p_X6_partOfFraction_B21 x5 s0 = some res) (hK : res = r), ∀ (H : Heap) (locs : List Loc) (ls : Array Slot), va_P G.1 vwCl ([] : va_W) H → va_D A ([] : va_W) → va_S A s.heap H locs → lv_has ls 7 [(5, .long x5)] → W p l e ({ frames := 2, cells := 0, slots := 0, locals := 42 }) s m args below meth c H locs 0 0 Q (F0 m 21 ls [.long s0]) := by
    intro x5 s0 res hf hK H locs ls hP hD hS hl
    unfold p_X6_partOfFraction_B21 at hf
    refine lv_lload hx hb dX6_partOfFraction_21 (lv_at hl 0 rfl) ?_
    obtain ⟨hg, hf⟩ := gd_e hf
    refine lv_ldiv hx hb dX6_partOfFraction_23 (nzL_e hg) ?_
    have hK9 := K0_of hf hK
    exact hRet (s0 / x5) _ _ _ _ hK9 dX6_partOfFraction_24 hP hD hS
  obtain ⟨res, hres, hK⟩ : ∃ res, p_X6_partOfFraction x0 x2 x4 = some res ∧ res = r := ⟨_, hf, rfl⟩
  clear hf
  have hf := hres
  clear hres
  unfold p_X6_partOfFraction at hf
  refine lv_lconst (v := (lN 1)) hx hb dX6_partOfFraction_0 rfl ?_
  refine lv_lload_n hx hb dX6_partOfFraction_1 rfl (lv_at hl 0 rfl) ?_
  refine lv_lload_n hx hb dX6_partOfFraction_2 rfl (lv_at hl 1 rfl) ?_
  obtain ⟨r3, hc3, hf⟩ := bd_e hf
  refine cl_l_same (Wd := ([] : va_W)) (W' := ([] : va_W)) (va_runS (As := [.long x0, .long x2]) (rest := [.long (lN 1)]) hC (c_X6_commonDivisor l G x0 x2 r3 hc3 _) (va_cwS 2 hts gX6_partOfFraction_X6_commonDivisor rfl rfl rfl (by decide +kernel) ⟨Nat.le_of_ble_eq_true rfl, Nat.le_of_ble_eq_true rfl⟩) ⟨Pc0_blind, fun U hU hW => Pc0_at hE hP hD hU hW⟩ rfl rfl hl.1 rfl (lv_room (Nat.le_of_ble_eq_true rfl)) dX6_partOfFraction_3 ⟨Nat.zero_le _, Nat.zero_le _⟩) hS hA hD (fun H locs hP hD hS => ?_)
  refine va_mmax_long hx hb (hml.trans hl.1.symm) hown (hts (.methodLink RX6 325 Lib.MathLoose.max_long.x) (by decide +kernel)) (hts (.static Lib.MathLoose.max_long.x) (by decide +kernel)) (hts (.initialized "java/lang/Math") (by decide +kernel)) (hts (.code Lib.MathLoose.max_long.x Lib.MathLoose.max_long.code 4 (some .long)) (by decide +kernel)) (Nat.le_of_ble_eq_true rfl) (Nat.le_of_ble_eq_true rfl) (Nat.zero_le _) (Nat.zero_le _) dX6_partOfFraction_6 ?_
  refine lv_lstore (lv' := [(5, .long (if r3 < (lN 1) then (lN 1) else r3)), (0, .long x0), (2, .long x2), (4, .int x4)]) hx hb dX6_partOfFraction_9 hl (by decide) rfl (fun ls hl => ?_)
  refine lv_iload hx hb dX6_partOfFraction_11 (lv_at hl 3 rfl) ?_
  refine lv_if_ne (tgt := 20) hx hb dX6_partOfFraction_13 (by decide) (fun hc => ?_) (fun hc => ?_)
  · have hf := if_f hf hc
    refine lv_lload_n hx hb dX6_partOfFraction_20 rfl (lv_at hl 2 rfl) ?_
    exact hB21 (if r3 < (lN 1) then (lN 1) else r3) x2 _ hf hK _ _ _ hP hD hS (lv_sub hl [0] rfl)
  · have hf := if_t hf hc
    refine lv_lload_n hx hb dX6_partOfFraction_16 rfl (lv_at hl 1 rfl) ?_
    refine lv_goto (tgt := 21) hx hb dX6_partOfFraction_17 (by decide) ?_
    exact hB21 (if r3 < (lN 1) then (lN 1) else r3) x0 _ hf hK _ _ _ hP hD hS (lv_sub hl [0] rfl)
