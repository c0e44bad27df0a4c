theorem bi_12 : (Int8.ofInt (12)).toInt32 = (nI 12) := by decide
noncomputable def p_X4_spells_L20 (f : Mem) (w1 : Nat) (x2 : Int32) : Option (Int32 ⊕ (Unit ⊕ Int32)) :=
  Option.bind (p_J0_length_8abf5 w1) <| fun r22 =>
  if r22 ≤ x2 then
    (some (Sum.inr (Sum.inl ())))
  else
    (Option.bind (p_J0_charAt_5068e w1 x2) <| fun r30 =>
     gd (inb ((f 0 2) + x2) 160) <|
     if r30 = (f 1 ((f 0 2) + x2).toNatClampNeg) then
       (some (Sum.inl (x2 + nI 1)))
     else
       (some (Sum.inr (Sum.inr (nI 0)))))
noncomputable def p_X4_spells (f : Mem) (w1 : Nat) : Option (Int32) :=
  Option.bind (p_J0_length_8abf5 w1) <| fun r1 =>
  if r1 = ((f 0 1) - (f 0 2)) then
    (Option.bind (lp (p_X4_spells_L20 f w1) (nI 0)) <| Sum.elim (fun _ =>
       some (nI 1)) some)
  else
    (some (nI 0))
set_option maxHeartbeats 4000000 in
set_option maxRecDepth 100000 in
theorem c_X4_spells (l : Launch) (G : Gt) (sk sv : Nat → Nat) (ad : Nat → Nat) (f : Mem) (w1 : Nat) (r : Int32) (hf : p_X4_spells f w1 = some r) (sz : Nat) : Met l yX4_spells wsX4_spells ({ frames := 5, cells := 0, slots := 0, locals := 99 }) (Pc1 G sk sv sz [.ref (ad 0), .ref (sk w1)] (wX4 G ad f)) (Qz0 G (va_A (wX4 G ad f) sz) r (wX4 G ad f)) 0 0 (va_A (wX4 G ad f) sz) := by
  refine metP1 (Qf := fun A => Qz0 G A r (wX4 G ad f)) cX4_spells 3 (some .boolean) (by decide) rfl (Nat.le_of_ble_eq_true rfl) ?_
  intro p e s m below meth c A ls hC hr hlocks hin hE hZ hA hsz hP hD hS hl
  generalize hargs : ([.ref (ad 0), .ref (sk w1)] : List Value).toArray = args at hC ⊢
  obtain ⟨hx, hb, hml, hown, hts⟩ := id hC
  have hT : va_K G.1 vwCl (tyL G) s := hE.1
  have hRet : ∀ (r9 : Int32) (H : Heap) (locs : List Loc) (ls : Array Slot) (pc : Nat) (hK9 : r9 = r) (hn9 : narrow .boolean (.int r9) = .int r9) (hdg : decode cX4_spells pc = .ok (.ireturn, 1)), va_P G.1 vwCl (wX4 G ad f) H → va_D A (wX4 G ad f) → va_S A s.heap H locs → W p l e ({ frames := 5, cells := 0, slots := 0, locals := 99 }) s m args below meth c H locs 0 0 (MQ below (Qz0 G A r (wX4 G ad f)) args s 0 0 A) (F0 m pc ls [.int r9]) := by
    intro r9 H locs ls pc hK9 hn9 hdg hP hD hS
    cases hK9
    exact W.zret hx hb hr hn9 (fun t ht hW => ⟨⟨r, (), rfl, ⟨rfl, hn9⟩, by rw [ht]; exact hP, hD⟩, hS.F ht⟩) hS.2.2 hdg hlocks
  generalize MQ below (Qz0 G A r (wX4 G ad f)) args s 0 0 A = Q at hRet ⊢
  have lk19 := hts (.fieldLink RX4 19 "FeatherShares$Tape" "place" "I") (by decide +kernel)
  have inX4 : ∀ w ∈ u_ws RX4 TX4 6, w ∈ wsX4_spells := by decide +kernel
  have lk22 := hts (.fieldLink RX4 22 "FeatherShares$Tape" "tokenStart" "I") (by decide +kernel)
  have lk9 := hts (.fieldLink RX4 9 "FeatherShares$Tape" "bytes" "[I") (by decide +kernel)
  have hl : lv_has ls 3 [(0, .ref (ad 0)), (1, .ref (sk w1))] := hl
  have hK0 : r = r := rfl
  obtain ⟨res, hres, hK⟩ : ∃ res, p_X4_spells f w1 = some res ∧ res = r := ⟨_, hf, rfl⟩
  clear hf
  have hf := hres
  clear hres
  unfold p_X4_spells at hf
  refine lv_aload_n hx hb dX4_spells_0 rfl (lv_at hl 1 rfl) ?_
  obtain ⟨r1, hc1, hf⟩ := bd_e hf
  refine cl_i_ro (Wd := (wX4 G ad f)) (Wc := ([] : va_W)) [] rfl (va_runV (As := []) (rest := []) hC (c_J0_length_8abf5 l G sk sv w1 r1 hc1 _) (cwV 0 hts gX4_spells_J0_length_8abf5 rfl rfl rfl (by decide +kernel) ⟨Nat.le_of_ble_eq_true rfl, Nat.le_of_ble_eq_true rfl⟩) ⟨Pc1_blind, vk_recv hZ.1 (J0_len_lt hc1).1 hS, fun U hU hW => Pc1_at (Wd := ([] : va_W)) hE hZ hS (fr_sub (Wd := (wX4 G ad f)) hD hS hA [] rfl) (hP.subm [] rfl) (hD.sub [] (by decide) rfl) hU hW⟩ rfl rfl hl.1 rfl (lv_room (Nat.le_of_ble_eq_true rfl)) dX4_spells_1 ⟨Nat.zero_le _, Nat.zero_le _⟩) hS hA hP hD (fun H locs hP hD hS => ?_)
  refine lv_aload_n hx hb dX4_spells_4 rfl (lv_at hl 0 rfl) ?_
  refine va_get (C := RX4) (T := TX4) (N := 6) (ci := 4) (v := .int (f 0 1)) hx hb hts inX4 hown hT hP 0 rfl rfl 2 (Nat.le_of_ble_eq_true rfl) lk19 (fun _ h => h) rfl dX4_spells_5 ?_
  refine lv_aload_n hx hb dX4_spells_8 rfl (lv_at hl 0 rfl) ?_
  refine va_get (C := RX4) (T := TX4) (N := 6) (ci := 4) (v := .int (f 0 2)) hx hb hts inX4 hown hT hP 0 rfl rfl 3 (Nat.le_of_ble_eq_true rfl) lk22 (fun _ h => h) rfl dX4_spells_9 ?_
  refine lv_isub hx hb dX4_spells_12 ?_
  refine lv_icmp_eq (tgt := 18) hx hb dX4_spells_13 (by decide) (fun hc => ?_) (fun hc => ?_)
  · have hf := if_t hf hc
    refine lv_iconst (v := (nI 0)) hx hb dX4_spells_18 (ic_0) ?_
    refine lv_istore_n (lv' := [(2, .int (nI 0)), (0, .ref (ad 0)), (1, .ref (sk w1))]) hx hb dX4_spells_19 rfl hl (by decide) rfl (fun ls hl => ?_)
    obtain ⟨ze, hlp, hf⟩ := bd_e hf
    refine lp_W2 (p_X4_spells_L20 f w1) (fun (x2 : Int32) => ∀ (H : Heap) (locs : List Loc) (ls : Array Slot), va_P G.1 vwCl (wX4 G ad f) H → va_D A (wX4 G ad f) → va_S A s.heap H locs → lv_has ls 3 [(0, .ref (ad 0)), (1, .ref (sk w1)), (2, .int x2)] → W p l e ({ frames := 5, cells := 0, slots := 0, locals := 99 }) s m args below meth c H locs 0 0 Q (F0 m 20 ls [])) (fun z => match z with | () => ∀ (H : Heap) (locs : List Loc) (ls : Array Slot), va_P G.1 vwCl (wX4 G ad f) H → va_D A (wX4 G ad f) → va_S A s.heap H locs → lv_has ls 3 [] → W p l e ({ frames := 5, cells := 0, slots := 0, locals := 99 }) s m args below meth c H locs 0 0 Q (F0 m 55 ls [])) (fun z => z = r) ?_ hlp ?_ _ _ _ hP hD hS (lv_sub hl [1, 2, 0] rfl)
    · clear hlp hf hK hP hD hS hl
      intro K20 hW20 hX20 hO20
      rintro x2 res hf hK H locs ls hP hD hS hl
      unfold p_X4_spells_L20 at hf
      refine lv_iload_n hx hb dX4_spells_20 rfl (lv_at hl 2 rfl) ?_
      refine lv_aload_n hx hb dX4_spells_21 rfl (lv_at hl 1 rfl) ?_
      obtain ⟨r22, hc22, hf⟩ := bd_e hf
      refine cl_i_ro (Wd := (wX4 G ad f)) (Wc := ([] : va_W)) [] rfl (va_runV (As := []) (rest := [.int x2]) hC (c_J0_length_8abf5 l G sk sv w1 r22 hc22 _) (cwV 0 hts gX4_spells_J0_length_8abf5 rfl rfl rfl (by decide +kernel) ⟨Nat.le_of_ble_eq_true rfl, Nat.le_of_ble_eq_true rfl⟩) ⟨Pc1_blind, vk_recv hZ.1 (J0_len_lt hc22).1 hS, fun U hU hW => Pc1_at (Wd := ([] : va_W)) hE hZ hS (fr_sub (Wd := (wX4 G ad f)) hD hS hA [] rfl) (hP.subm [] rfl) (hD.sub [] (by decide) rfl) hU hW⟩ rfl rfl hl.1 rfl (lv_room (Nat.le_of_ble_eq_true rfl)) dX4_spells_22 ⟨Nat.zero_le _, Nat.zero_le _⟩) hS hA hP hD (fun H locs hP hD hS => ?_)
      refine lv_icmp_ge (tgt := 55) hx hb dX4_spells_25 (by decide) (fun hc => ?_) (fun hc => ?_)
      · have hf := if_t hf hc
        have hK9 := K_of hf hK
        have hK9 := hX20 _ hK9
        exact hK9 _ _ _ hP hD hS (lv_sub hl [] rfl)
      · have hf := if_f hf hc
        refine lv_aload_n hx hb dX4_spells_28 rfl (lv_at hl 1 rfl) ?_
        refine lv_iload_n hx hb dX4_spells_29 rfl (lv_at hl 2 rfl) ?_
        obtain ⟨r30, hc30, hf⟩ := bd_e hf
        refine cl_i_ro (Wd := (wX4 G ad f)) (Wc := ([] : va_W)) [] rfl (va_runV (As := [.int x2]) (rest := []) hC (c_J0_charAt_5068e l G sk sv w1 x2 r30 hc30 _) (cwV 1 hts gX4_spells_J0_charAt_5068e rfl rfl rfl (by decide +kernel) ⟨Nat.le_of_ble_eq_true rfl, Nat.le_of_ble_eq_true rfl⟩) ⟨Pc1_blind, vk_recv hZ.1 (J0_chr_lt hc30).1 hS, fun U hU hW => Pc1_at (Wd := ([] : va_W)) hE hZ hS (fr_sub (Wd := (wX4 G ad f)) hD hS hA [] rfl) (hP.subm [] rfl) (hD.sub [] (by decide) rfl) hU hW⟩ rfl rfl hl.1 rfl (lv_room (Nat.le_of_ble_eq_true rfl)) dX4_spells_30 ⟨Nat.zero_le _, Nat.zero_le _⟩) hS hA hP hD (fun H locs hP hD hS => ?_)
        refine lv_aload_n hx hb dX4_spells_33 rfl (lv_at hl 0 rfl) ?_
        refine va_get (C := RX4) (T := TX4) (N := 6) (ci := 4) (v := .ref (ad 1)) hx hb hts inX4 hown hT hP 0 rfl rfl 0 (Nat.le_of_ble_eq_true rfl) lk9 (fun _ h => h) rfl dX4_spells_34 ?_
        refine lv_aload_n hx hb dX4_spells_37 rfl (lv_at hl 0 rfl) ?_
        refine va_get (C := RX4) (T := TX4) (N := 6) (ci := 4) (v := .int (f 0 2)) hx hb hts inX4 hown hT hP 0 rfl rfl 3 (Nat.le_of_ble_eq_true rfl) lk22 (fun _ h => h) rfl dX4_spells_38 ?_
        refine lv_iload_n hx hb dX4_spells_41 rfl (lv_at hl 2 rfl) ?_
        refine lv_iadd hx hb dX4_spells_42 ?_
        obtain ⟨hg, hf⟩ := gd_e hf
        refine va_iald (f := f 1) hx hb hT hP 1 0 rfl rfl (inb_e hg) dX4_spells_43 ?_
        refine lv_icmp_eq (tgt := 49) hx hb dX4_spells_44 (by decide) (fun hc => ?_) (fun hc => ?_)
        · have hf := if_t hf hc
          refine lv_iinc (v := (x2 + nI 1)) (lv' := [(2, .int (x2 + nI 1)), (0, .ref (ad 0)), (1, .ref (sk w1))]) hx hb dX4_spells_49 hl (k := 2) rfl (ii_x 1 _) (by decide) rfl (fun ls hl => ?_)
          refine lv_goto (tgt := 20) hx hb dX4_spells_52 (by decide) ?_
          have hK9 := K_of hf hK
          have hK9 := hW20 _ hK9
          exact hK9 _ _ _ hP hD hS (lv_sub hl [1, 2, 0] rfl)
        · have hf := if_f hf hc
          refine lv_iconst (v := (nI 0)) hx hb dX4_spells_47 (ic_0) ?_
          have hK9 := K_of hf hK
          have hK9 := hO20 _ hK9
          exact hRet (nI 0) _ _ _ _ hK9 rfl dX4_spells_48 hP hD hS
    · rcases ze with _u | zo
      · try simp only [Sum.elim_inl] at hf
        try dsimp only at hf
        show ∀ (H : Heap) (locs : List Loc) (ls : Array Slot), va_P G.1 vwCl (wX4 G ad f) H → va_D A (wX4 G ad f) → va_S A s.heap H locs → lv_has ls 3 [] → W p l e ({ frames := 5, cells := 0, slots := 0, locals := 99 }) s m args below meth c H locs 0 0 Q (F0 m 55 ls [])
        intro H locs ls hP hD hS hl
        refine lv_iconst (v := (nI 1)) hx hb dX4_spells_55 (ic_1) ?_
        have hK9 := K0_of hf hK
        exact hRet (nI 1) _ _ _ _ hK9 rfl dX4_spells_56 hP hD hS
      · have hK9 := K0_of (show some zo = some _ from hf) hK
        exact hK9
  · have hf := if_f hf hc
    refine lv_iconst (v := (nI 0)) hx hb dX4_spells_16 (ic_0) ?_
    have hK9 := K0_of hf hK
    exact hRet (nI 0) _ _ _ _ hK9 rfl dX4_spells_17 hP hD hS
noncomputable def p_X5_lineNamed (fo0 : Mem) : Option (Int32) :=
  if (fo0 0 3) = (nI 1) then
    (Option.bind (p_X4_spells fo0 0) <| fun r14 =>
     if r14 = 0 then
       (Option.bind (p_X4_spells fo0 1) <| fun r27 =>
        if r27 = 0 then
          (Option.bind (p_X4_spells fo0 2) <| fun r40 =>
           if r40 = 0 then
             (Option.bind (p_X4_spells fo0 3) <| fun r53 =>
              if r53 = 0 then
                (Option.bind (p_X4_spells fo0 4) <| fun r66 =>
                 if r66 = 0 then
                   (Option.bind (p_X4_spells fo0 5) <| fun r80 =>
                    if r80 = 0 then
                      (Option.bind (p_X4_spells fo0 6) <| fun r94 =>
                       if r94 = 0 then
                         (some (-4 : Int32))
                       else
                         (some (nI 12)))
                    else
                      (some (nI 11)))
                 else
                   (some (nI 10)))
              else
                (some (nI 3)))
           else
             (some (nI 2)))
        else
          (some (nI 1)))
     else
       (some (nI 0)))
  else
    (some (-4 : Int32))
set_option maxHeartbeats 4000000 in
set_option maxRecDepth 100000 in
theorem c_X5_lineNamed (l : Launch) (G : Gt) (sk sv : Nat → Nat) (ao0 : Nat → Nat) (fo0 : Mem) (r : Int32) (hf : p_X5_lineNamed fo0 = some r) (sz : Nat) : Met l yX5_lineNamed wsX5_lineNamed ({ frames := 6, cells := 0, slots := 0, locals := 121 }) (Pc1 G sk sv sz [.ref (ao0 0)] (wX4 G ao0 fo0)) (Qi0 G (va_A (wX4 G ao0 fo0) sz) r (wX4 G ao0 fo0)) 0 0 (va_A (wX4 G ao0 fo0) sz) := by
  refine metP1 (Qf := fun A => Qi0 G A r (wX4 G ao0 fo0)) cX5_lineNamed 1 (some .int) (by decide) rfl (Nat.le_of_ble_eq_true rfl) ?_
  intro p e s m below meth c A ls hC hr hlocks hin hE hZ hA hsz hP hD hS hl
  generalize hargs : ([.ref (ao0 0)] : List Value).toArray = args at hC ⊢
  obtain ⟨hx, hb, hml, hown, hts⟩ := id hC
  have hT : va_K G.1 vwCl (tyL G) s := hE.1
  have hRet : ∀ (r9 : Int32) (H : Heap) (locs : List Loc) (ls : Array Slot) (pc : Nat) (hK9 : r9 = r) (hdg : decode cX5_lineNamed pc = .ok (.ireturn, 1)), va_P G.1 vwCl (wX4 G ao0 fo0) H → va_D A (wX4 G ao0 fo0) → va_S A s.heap H locs → W p l e ({ frames := 6, cells := 0, slots := 0, locals := 121 }) s m args below meth c H locs 0 0 (MQ below (Qi0 G A r (wX4 G ao0 fo0)) args s 0 0 A) (F0 m pc ls [.int r9]) := by
    intro r9 H locs ls pc hK9 hdg hP hD hS
    cases hK9
    exact W.iret hx hb hr (fun t ht hW => ⟨⟨r, (), rfl, rfl, by rw [ht]; exact hP, hD⟩, hS.F ht⟩) hS.2.2 hdg hlocks
  generalize MQ below (Qi0 G A r (wX4 G ao0 fo0)) args s 0 0 A = Q at hRet ⊢
  have lk62 := va_Nw.use (A := args) rfl (hE.2.1 (RX5, 62, "FeatherShares$Tape", "token", "I", "FeatherShares") (List.mem_of_getElem? (i := 30) rfl))
  have inX4 : ∀ w ∈ u_ws RX4 TX4 6, w ∈ wsX5_lineNamed := by decide +kernel
  have hl : lv_has ls 1 [(0, .ref (ao0 0))] := hl
  have hK0 : r = r := rfl
  obtain ⟨res, hres, hK⟩ : ∃ res, p_X5_lineNamed fo0 = some res ∧ res = r := ⟨_, hf, rfl⟩
  clear hf
  have hf := hres
  clear hres
  unfold p_X5_lineNamed at hf
  refine lv_aload_n hx hb dX5_lineNamed_0 rfl (lv_at hl 0 rfl) ?_
  refine va_getN (C := RX4) (T := TX4) (N := 6) (ci := 4) (v := .int (fo0 0 3)) hx hb hts inX4 hown hT hP 0 rfl rfl 4 (Nat.le_of_ble_eq_true rfl) lk62 (fun _ h => h) rfl dX5_lineNamed_1 ?_
  refine lv_iconst (v := (nI 1)) hx hb dX5_lineNamed_4 (ic_1) ?_
  refine lv_icmp_eq (tgt := 11) hx hb dX5_lineNamed_5 (by decide) (fun hc => ?_) (fun hc => ?_)
  · have hf := if_t hf hc
    refine lv_aload_n hx hb dX5_lineNamed_11 rfl (lv_at hl 0 rfl) ?_
    refine va_ldcS hx hb hown (show vk_R RX5 86 "plain" (sk 0) s from hZ.2.2.2 0 (by decide)) dX5_lineNamed_12 ?_
    obtain ⟨r14, hc14, hf⟩ := bd_e hf
    refine cl_z_same (Wd := (wX4 G ao0 fo0)) (W' := (wX4 G ao0 fo0)) (va_runVN (As := [.ref (sk 0)]) (rest := []) hC (c_X4_spells l G sk sv ao0 fo0 0 r14 hc14 _) ⟨va_cnB 1 hts gX5_lineNamed_X4_spells_n88 rfl rfl rfl (hE.2.2 (RX5, 88, yX4_spells, "FeatherShares") (List.mem_of_getElem? (i := 53) rfl)) (hts (.initialized RX4) (by decide +kernel)) (by decide +kernel) ⟨Nat.le_of_ble_eq_true rfl, Nat.le_of_ble_eq_true rfl⟩, hts (.instanceMethod yX4_spells) (by decide +kernel), hts (.selects RX4 yX4_spells yX4_spells) (by decide +kernel)⟩ ⟨Pc1_blind, va_recv hT hP (q0 := 0) (ci := 4) rfl rfl, fun U hU hW => Pc1_at hE hZ hS (fr_all hD hS hA) hP hD hU hW⟩ rfl rfl hl.1 rfl (lv_room (Nat.le_of_ble_eq_true rfl)) dX5_lineNamed_14 ⟨Nat.zero_le _, Nat.zero_le _⟩) hS hA hD (fun H locs hn14 hP hD hS => ?_)
    refine lv_if_eq (tgt := 24) hx hb dX5_lineNamed_17 (by decide) (fun hc => ?_) (fun hc => ?_)
    · have hf := if_t hf hc
      refine lv_aload_n hx hb dX5_lineNamed_24 rfl (lv_at hl 0 rfl) ?_
      refine va_ldcS hx hb hown (show vk_R RX5 92 "moulter" (sk 1) s from hZ.2.2.2 1 (by decide)) dX5_lineNamed_25 ?_
      obtain ⟨r27, hc27, hf⟩ := bd_e hf
      refine cl_z_same (Wd := (wX4 G ao0 fo0)) (W' := (wX4 G ao0 fo0)) (va_runVN (As := [.ref (sk 1)]) (rest := []) hC (c_X4_spells l G sk sv ao0 fo0 1 r27 hc27 _) ⟨va_cnB 1 hts gX5_lineNamed_X4_spells_n88 rfl rfl rfl (hE.2.2 (RX5, 88, yX4_spells, "FeatherShares") (List.mem_of_getElem? (i := 53) rfl)) (hts (.initialized RX4) (by decide +kernel)) (by decide +kernel) ⟨Nat.le_of_ble_eq_true rfl, Nat.le_of_ble_eq_true rfl⟩, hts (.instanceMethod yX4_spells) (by decide +kernel), hts (.selects RX4 yX4_spells yX4_spells) (by decide +kernel)⟩ ⟨Pc1_blind, va_recv hT hP (q0 := 0) (ci := 4) rfl rfl, fun U hU hW => Pc1_at hE hZ hS (fr_all hD hS hA) hP hD hU hW⟩ rfl rfl hl.1 rfl (lv_room (Nat.le_of_ble_eq_true rfl)) dX5_lineNamed_27 ⟨Nat.zero_le _, Nat.zero_le _⟩) hS hA hD (fun H locs hn27 hP hD hS => ?_)
      refine lv_if_eq (tgt := 37) hx hb dX5_lineNamed_30 (by decide) (fun hc => ?_) (fun hc => ?_)
      · have hf := if_t hf hc
        refine lv_aload_n hx hb dX5_lineNamed_37 rfl (lv_at hl 0 rfl) ?_
        refine va_ldcS hx hb hown (show vk_R RX5 94 "swan" (sk 2) s from hZ.2.2.2 2 (by decide)) dX5_lineNamed_38 ?_
        obtain ⟨r40, hc40, hf⟩ := bd_e hf
        refine cl_z_same (Wd := (wX4 G ao0 fo0)) (W' := (wX4 G ao0 fo0)) (va_runVN (As := [.ref (sk 2)]) (rest := []) hC (c_X4_spells l G sk sv ao0 fo0 2 r40 hc40 _) ⟨va_cnB 1 hts gX5_lineNamed_X4_spells_n88 rfl rfl rfl (hE.2.2 (RX5, 88, yX4_spells, "FeatherShares") (List.mem_of_getElem? (i := 53) rfl)) (hts (.initialized RX4) (by decide +kernel)) (by decide +kernel) ⟨Nat.le_of_ble_eq_true rfl, Nat.le_of_ble_eq_true rfl⟩, hts (.instanceMethod yX4_spells) (by decide +kernel), hts (.selects RX4 yX4_spells yX4_spells) (by decide +kernel)⟩ ⟨Pc1_blind, va_recv hT hP (q0 := 0) (ci := 4) rfl rfl, fun U hU hW => Pc1_at hE hZ hS (fr_all hD hS hA) hP hD hU hW⟩ rfl rfl hl.1 rfl (lv_room (Nat.le_of_ble_eq_true rfl)) dX5_lineNamed_40 ⟨Nat.zero_le _, Nat.zero_le _⟩) hS hA hD (fun H locs hn40 hP hD hS => ?_)
        refine lv_if_eq (tgt := 50) hx hb dX5_lineNamed_43 (by decide) (fun hc => ?_) (fun hc => ?_)
        · have hf := if_t hf hc
          refine lv_aload_n hx hb dX5_lineNamed_50 rfl (lv_at hl 0 rfl) ?_
          refine va_ldcS hx hb hown (show vk_R RX5 96 "drake" (sk 3) s from hZ.2.2.2 3 (by decide)) dX5_lineNamed_51 ?_
          obtain ⟨r53, hc53, hf⟩ := bd_e hf
          refine cl_z_same (Wd := (wX4 G ao0 fo0)) (W' := (wX4 G ao0 fo0)) (va_runVN (As := [.ref (sk 3)]) (rest := []) hC (c_X4_spells l G sk sv ao0 fo0 3 r53 hc53 _) ⟨va_cnB 1 hts gX5_lineNamed_X4_spells_n88 rfl rfl rfl (hE.2.2 (RX5, 88, yX4_spells, "FeatherShares") (List.mem_of_getElem? (i := 53) rfl)) (hts (.initialized RX4) (by decide +kernel)) (by decide +kernel) ⟨Nat.le_of_ble_eq_true rfl, Nat.le_of_ble_eq_true rfl⟩, hts (.instanceMethod yX4_spells) (by decide +kernel), hts (.selects RX4 yX4_spells yX4_spells) (by decide +kernel)⟩ ⟨Pc1_blind, va_recv hT hP (q0 := 0) (ci := 4) rfl rfl, fun U hU hW => Pc1_at hE hZ hS (fr_all hD hS hA) hP hD hU hW⟩ rfl rfl hl.1 rfl (lv_room (Nat.le_of_ble_eq_true rfl)) dX5_lineNamed_53 ⟨Nat.zero_le _, Nat.zero_le _⟩) hS hA hD (fun H locs hn53 hP hD hS => ?_)
          refine lv_if_eq (tgt := 63) hx hb dX5_lineNamed_56 (by decide) (fun hc => ?_) (fun hc => ?_)
          · have hf := if_t hf hc
            refine lv_aload_n hx hb dX5_lineNamed_63 rfl (lv_at hl 0 rfl) ?_
            refine va_ldcS hx hb hown (show vk_R RX5 98 "share" (sk 4) s from hZ.2.2.2 4 (by decide)) dX5_lineNamed_64 ?_
            obtain ⟨r66, hc66, hf⟩ := bd_e hf
            refine cl_z_same (Wd := (wX4 G ao0 fo0)) (W' := (wX4 G ao0 fo0)) (va_runVN (As := [.ref (sk 4)]) (rest := []) hC (c_X4_spells l G sk sv ao0 fo0 4 r66 hc66 _) ⟨va_cnB 1 hts gX5_lineNamed_X4_spells_n88 rfl rfl rfl (hE.2.2 (RX5, 88, yX4_spells, "FeatherShares") (List.mem_of_getElem? (i := 53) rfl)) (hts (.initialized RX4) (by decide +kernel)) (by decide +kernel) ⟨Nat.le_of_ble_eq_true rfl, Nat.le_of_ble_eq_true rfl⟩, hts (.instanceMethod yX4_spells) (by decide +kernel), hts (.selects RX4 yX4_spells yX4_spells) (by decide +kernel)⟩ ⟨Pc1_blind, va_recv hT hP (q0 := 0) (ci := 4) rfl rfl, fun U hU hW => Pc1_at hE hZ hS (fr_all hD hS hA) hP hD hU hW⟩ rfl rfl hl.1 rfl (lv_room (Nat.le_of_ble_eq_true rfl)) dX5_lineNamed_66 ⟨Nat.zero_le _, Nat.zero_le _⟩) hS hA hD (fun H locs hn66 hP hD hS => ?_)
            refine lv_if_eq (tgt := 77) hx hb dX5_lineNamed_69 (by decide) (fun hc => ?_) (fun hc => ?_)
            · have hf := if_t hf hc
              refine lv_aload_n hx hb dX5_lineNamed_77 rfl (lv_at hl 0 rfl) ?_
              refine va_ldcS hx hb hown (show vk_R RX5 100 "money" (sk 5) s from hZ.2.2.2 5 (by decide)) dX5_lineNamed_78 ?_
              obtain ⟨r80, hc80, hf⟩ := bd_e hf
              refine cl_z_same (Wd := (wX4 G ao0 fo0)) (W' := (wX4 G ao0 fo0)) (va_runVN (As := [.ref (sk 5)]) (rest := []) hC (c_X4_spells l G sk sv ao0 fo0 5 r80 hc80 _) ⟨va_cnB 1 hts gX5_lineNamed_X4_spells_n88 rfl rfl rfl (hE.2.2 (RX5, 88, yX4_spells, "FeatherShares") (List.mem_of_getElem? (i := 53) rfl)) (hts (.initialized RX4) (by decide +kernel)) (by decide +kernel) ⟨Nat.le_of_ble_eq_true rfl, Nat.le_of_ble_eq_true rfl⟩, hts (.instanceMethod yX4_spells) (by decide +kernel), hts (.selects RX4 yX4_spells yX4_spells) (by decide +kernel)⟩ ⟨Pc1_blind, va_recv hT hP (q0 := 0) (ci := 4) rfl rfl, fun U hU hW => Pc1_at hE hZ hS (fr_all hD hS hA) hP hD hU hW⟩ rfl rfl hl.1 rfl (lv_room (Nat.le_of_ble_eq_true rfl)) dX5_lineNamed_80 ⟨Nat.zero_le _, Nat.zero_le _⟩) hS hA hD (fun H locs hn80 hP hD hS => ?_)
              refine lv_if_eq (tgt := 91) hx hb dX5_lineNamed_83 (by decide) (fun hc => ?_) (fun hc => ?_)
              · have hf := if_t hf hc
                refine lv_aload_n hx hb dX5_lineNamed_91 rfl (lv_at hl 0 rfl) ?_
                refine va_ldcS hx hb hown (show vk_R RX5 102 "trade" (sk 6) s from hZ.2.2.2 6 (by decide)) dX5_lineNamed_92 ?_
                obtain ⟨r94, hc94, hf⟩ := bd_e hf
                refine cl_z_same (Wd := (wX4 G ao0 fo0)) (W' := (wX4 G ao0 fo0)) (va_runVN (As := [.ref (sk 6)]) (rest := []) hC (c_X4_spells l G sk sv ao0 fo0 6 r94 hc94 _) ⟨va_cnB 1 hts gX5_lineNamed_X4_spells_n88 rfl rfl rfl (hE.2.2 (RX5, 88, yX4_spells, "FeatherShares") (List.mem_of_getElem? (i := 53) rfl)) (hts (.initialized RX4) (by decide +kernel)) (by decide +kernel) ⟨Nat.le_of_ble_eq_true rfl, Nat.le_of_ble_eq_true rfl⟩, hts (.instanceMethod yX4_spells) (by decide +kernel), hts (.selects RX4 yX4_spells yX4_spells) (by decide +kernel)⟩ ⟨Pc1_blind, va_recv hT hP (q0 := 0) (ci := 4) rfl rfl, fun U hU hW => Pc1_at hE hZ hS (fr_all hD hS hA) hP hD hU hW⟩ rfl rfl hl.1 rfl (lv_room (Nat.le_of_ble_eq_true rfl)) dX5_lineNamed_94 ⟨Nat.zero_le _, Nat.zero_le _⟩) hS hA hD (fun H locs hn94 hP hD hS => ?_)
                refine lv_if_eq (tgt := 105) hx hb dX5_lineNamed_97 (by decide) (fun hc => ?_) (fun hc => ?_)
                · have hf := if_t hf hc
                  refine lv_bipush (v := (-4 : Int32)) hx hb dX5_lineNamed_105 (bi_m4) ?_
                  have hK9 := K0_of hf hK
                  exact hRet (-4 : Int32) _ _ _ _ hK9 dX5_lineNamed_107 hP hD hS
                · have hf := if_f hf hc
                  refine lv_bipush (v := (nI 12)) hx hb dX5_lineNamed_100 (bi_12) ?_
                  refine lv_goto (tgt := 107) hx hb dX5_lineNamed_102 (by decide) ?_
                  have hK9 := K0_of hf hK
                  exact hRet (nI 12) _ _ _ _ hK9 dX5_lineNamed_107 hP hD hS
              · have hf := if_f hf hc
                refine lv_bipush (v := (nI 11)) hx hb dX5_lineNamed_86 (bi_11) ?_
                refine lv_goto (tgt := 107) hx hb dX5_lineNamed_88 (by decide) ?_
                have hK9 := K0_of hf hK
                exact hRet (nI 11) _ _ _ _ hK9 dX5_lineNamed_107 hP hD hS
            · have hf := if_f hf hc
              refine lv_bipush (v := (nI 10)) hx hb dX5_lineNamed_72 (bi_10) ?_
              refine lv_goto (tgt := 107) hx hb dX5_lineNamed_74 (by decide) ?_
              have hK9 := K0_of hf hK
              exact hRet (nI 10) _ _ _ _ hK9 dX5_lineNamed_107 hP hD hS
          · have hf := if_f hf hc
            refine lv_iconst (v := (nI 3)) hx hb dX5_lineNamed_59 (ic_3) ?_
            refine lv_goto (tgt := 107) hx hb dX5_lineNamed_60 (by decide) ?_
            have hK9 := K0_of hf hK
            exact hRet (nI 3) _ _ _ _ hK9 dX5_lineNamed_107 hP hD hS
        · have hf := if_f hf hc
          refine lv_iconst (v := (nI 2)) hx hb dX5_lineNamed_46 (ic_2) ?_
          refine lv_goto (tgt := 107) hx hb dX5_lineNamed_47 (by decide) ?_
          have hK9 := K0_of hf hK
          exact hRet (nI 2) _ _ _ _ hK9 dX5_lineNamed_107 hP hD hS
      · have hf := if_f hf hc
        refine lv_iconst (v := (nI 1)) hx hb dX5_lineNamed_33 (ic_1) ?_
        refine lv_goto (tgt := 107) hx hb dX5_lineNamed_34 (by decide) ?_
        have hK9 := K0_of hf hK
        exact hRet (nI 1) _ _ _ _ hK9 dX5_lineNamed_107 hP hD hS
    · have hf := if_f hf hc
      refine lv_iconst (v := (nI 0)) hx hb dX5_lineNamed_20 (ic_0) ?_
      refine lv_goto (tgt := 107) hx hb dX5_lineNamed_21 (by decide) ?_
      have hK9 := K0_of hf hK
      exact hRet (nI 0) _ _ _ _ hK9 dX5_lineNamed_107 hP hD hS
  · have hf := if_f hf hc
    refine lv_bipush (v := (-4 : Int32)) hx hb dX5_lineNamed_8 (bi_m4) ?_
    have hK9 := K0_of hf hK
    exact hRet (-4 : Int32) _ _ _ _ hK9 dX5_lineNamed_10 hP hD hS
noncomputable def p_X5_readLine_B173 (f : Mem) (fdraft : Mem) (fo1 : Mem) : Option (Int32 × Mem × Mem × Mem) :=
  if (f 0 1) = 0 then
    (some ((nI 1), f, fdraft, fo1))
  else
    (some ((nI 0), f, fdraft, fo1))
noncomputable def p_X5_readLine_B164 (f : Mem) (fdraft : Mem) (fo1 : Mem) : Option (Int32 × Mem × Mem × Mem) :=
  Option.bind (p_X5_refuse f (nI 2) (fo1 0 2)) <| fun f_170 =>
  p_X5_readLine_B173 f_170 fdraft fo1
noncomputable def p_X5_readLine (f : Mem) (fdraft : Mem) (fo1 : Mem) : Option (Int32 × Mem × Mem × Mem) :=
  Option.bind (p_X4_nextToken fo1) <| fun fo1_1 =>
  if (fo1_1 0 3) = 0 then
    (some ((nI 0), f, fdraft, fo1_1))
  else
    (if (fo1_1 0 3) = (nI 4) then
       (Option.bind (p_X5_refuse f (nI 1) (fo1_1 0 2)) <| fun f_27 =>
        some ((nI 0), f_27, fdraft, fo1_1))
     else
       (Option.bind (p_X5_lineNamed fo1_1) <| fun r33 =>
        if r33 = (nI 0) then
          (Option.bind (p_X5_readGoose f fdraft fo1_1 (nI 0)) <| fun (f_107, fdraft_107, fo1_107) =>
           p_X5_readLine_B173 f_107 fdraft_107 fo1_107)
        else if r33 = (nI 1) then
          (Option.bind (p_X5_readGoose f fdraft fo1_1 (nI 1)) <| fun (f_116, fdraft_116, fo1_116) =>
           p_X5_readLine_B173 f_116 fdraft_116 fo1_116)
        else if r33 = (nI 2) then
          (Option.bind (p_X5_readGoose f fdraft fo1_1 (nI 2)) <| fun (f_125, fdraft_125, fo1_125) =>
           p_X5_readLine_B173 f_125 fdraft_125 fo1_125)
        else if r33 = (nI 3) then
          (Option.bind (p_X5_readGoose f fdraft fo1_1 (nI 3)) <| fun (f_134, fdraft_134, fo1_134) =>
           p_X5_readLine_B173 f_134 fdraft_134 fo1_134)
        else if r33 = (nI 10) then
          (Option.bind (p_X5_readShare f fdraft fo1_1) <| fun (f_142, fdraft_142, fo1_142) =>
           p_X5_readLine_B173 f_142 fdraft_142 fo1_142)
        else if r33 = (nI 11) then
          (Option.bind (p_X5_readMoney f fdraft fo1_1) <| fun (f_150, fdraft_150, fo1_150) =>
           p_X5_readLine_B173 f_150 fdraft_150 fo1_150)
        else if r33 = (nI 12) then
          (Option.bind (p_X5_readTrade f fdraft fo1_1) <| fun (f_158, fdraft_158, fo1_158) =>
           p_X5_readLine_B173 f_158 fdraft_158 fo1_158)
        else
          (p_X5_readLine_B164 f fdraft fo1_1)))
set_option maxHeartbeats 4000000 in
set_option maxRecDepth 100000 in
theorem c_X5_readLine (l : Launch) (G : Gt) (sk sv : Nat → Nat) (ad : Nat → Nat) (add : Nat → Nat) (ao1 : Nat → Nat) (f : Mem) (fdraft : Mem) (fo1 : Mem) (r : Int32) (fz : Mem) (fdraftz : Mem) (fo1z : Mem) (hf : p_X5_readLine f fdraft fo1 = some (r, fz, fdraftz, fo1z)) (sz : Nat) : Met l yX5_readLine wsX5_readLine ({ frames := 7, cells := 0, slots := 0, locals := 141 }) (Pc1 G sk sv sz [.ref (ad 0), .ref (ao1 0)] (wX5 G ad (add 0) f ++ (wX0 G add fdraft ++ (wX4 G ao1 fo1)))) (Qz0 G (va_A (wX5 G ad (add 0) f ++ (wX0 G add fdraft ++ (wX4 G ao1 fo1))) sz) r (wX5 G ad (add 0) fz ++ (wX0 G add fdraftz ++ (wX4 G ao1 fo1z)))) 0 0 (va_A (wX5 G ad (add 0) f ++ (wX0 G add fdraft ++ (wX4 G ao1 fo1))) sz) := by
  refine metP1 (Qf := fun A => Qz0 G A r (wX5 G ad (add 0) fz ++ (wX0 G add fdraftz ++ (wX4 G ao1 fo1z)))) cX5_readLine 2 (some .boolean) (by decide) rfl (Nat.le_of_ble_eq_true rfl) ?_
  intro p e s m below meth c A ls hC hr hlocks hin hE hZ hA hsz hP hD hS hl
  generalize hargs : ([.ref (ad 0), .ref (ao1 0)] : List Value).toArray = args at hC ⊢
  obtain ⟨hx, hb, hml, hown, hts⟩ := id hC
  have hT : va_K G.1 vwCl (tyL G) s := hE.1
  have hRet : ∀ (r9 : Int32) (f9 : Mem) (fdraft9 : Mem) (fo19 : Mem) (H : Heap) (locs : List Loc) (ls : Array Slot) (pc : Nat) (hK9 : (r9, f9, fdraft9, fo19) = (r, fz, fdraftz, fo1z)) (hn9 : narrow .boolean (.int r9) = .int r9) (hdg : decode cX5_readLine pc = .ok (.ireturn, 1)), va_P G.1 vwCl (wX5 G ad (add 0) f9 ++ (wX0 G add fdraft9 ++ (wX4 G ao1 fo19))) H → va_D A (wX5 G ad (add 0) f9 ++ (wX0 G add fdraft9 ++ (wX4 G ao1 fo19))) → va_S A s.heap H locs → W p l e ({ frames := 7, cells := 0, slots := 0, locals := 141 }) s m args below meth c H locs 0 0 (MQ below (Qz0 G A r (wX5 G ad (add 0) fz ++ (wX0 G add fdraftz ++ (wX4 G ao1 fo1z)))) args s 0 0 A) (F0 m pc ls [.int r9]) := by
    intro r9 f9 fdraft9 fo19 H locs ls pc hK9 hn9 hdg hP hD hS
    cases hK9
    exact W.zret hx hb hr hn9 (fun t ht hW => ⟨⟨r, (), rfl, ⟨rfl, hn9⟩, by rw [ht]; exact hP, hD⟩, hS.F ht⟩) hS.2.2 hdg hlocks
  generalize MQ below (Qz0 G A r (wX5 G ad (add 0) fz ++ (wX0 G add fdraftz ++ (wX4 G ao1 fo1z)))) args s 0 0 A = Q at hRet ⊢
  have lk22 := hts (.fieldLink RX5 22 "FeatherShares$TextReader" "faultFound" "I") (by decide +kernel)
  have inX5 : ∀ w ∈ u_ws RX5 TX5 7, w ∈ wsX5_readLine := by decide +kernel
  have lk65 := va_Nw.use (A := args) rfl (hE.2.1 (RX5, 65, "FeatherShares$Tape", "tokenStart", "I", "FeatherShares") (List.mem_of_getElem? (i := 31) rfl))
  have inX4 : ∀ w ∈ u_ws RX4 TX4 6, w ∈ wsX5_readLine := by decide +kernel
  have lk62 := va_Nw.use (A := args) rfl (hE.2.1 (RX5, 62, "FeatherShares$Tape", "token", "I", "FeatherShares") (List.mem_of_getElem? (i := 30) rfl))
  have hl : lv_has ls 2 [(0, .ref (ad 0)), (1, .ref (ao1 0))] := hl
  have hK0 : (r, fz, fdraftz, fo1z) = (r, fz, fdraftz, fo1z) := rfl
  have hB173 : ∀ (f : Mem) (fdraft : Mem) (fo1 : Mem) (res : Int32 × Mem × Mem × Mem) (hf : p_X5_readLine_B173 f fdraft fo1 = some res) (hK : res = (r, fz, fdraftz, fo1z)), ∀ (H : Heap) (locs : List Loc) (ls : Array Slot), va_P G.1 vwCl (wX5 G ad (add 0) f ++ (wX0 G add fdraft ++ (wX4 G ao1 fo1))) H → va_D A (wX5 G ad (add 0) f ++ (wX0 G add fdraft ++ (wX4 G ao1 fo1))) → va_S A s.heap H locs → lv_has ls 2 [(0, .ref (ad 0))] → W p l e ({ frames := 7, cells := 0, slots := 0, locals := 141 }) s m args below meth c H locs 0 0 Q (F0 m 173 ls []) := by
    intro f fdraft fo1 res hf hK H locs ls hP hD hS hl
    unfold p_X5_readLine_B173 at hf
    refine lv_aload_n hx hb dX5_readLine_173 rfl (lv_at hl 0 rfl) ?_
    refine va_get (C := RX5) (T := TX5) (N := 7) (ci := 5) (v := .int (f 0 1)) hx hb hts inX5 hown hT hP 0 rfl rfl 2 (Nat.le_of_ble_eq_true rfl) lk22 (fun _ h => h) rfl dX5_readLine_174 ?_
    refine lv_if_ne (tgt := 184) hx hb dX5_readLine_177 (by decide) (fun hc => ?_) (fun hc => ?_)
    · have hf := if_f hf hc
      refine lv_iconst (v := (nI 0)) hx hb dX5_readLine_184 (ic_0) ?_
      have hK9 := K0_of hf hK
      exact hRet (nI 0) f fdraft fo1 _ _ _ _ hK9 rfl dX5_readLine_185 hP hD hS
    · have hf := if_t hf hc
      refine lv_iconst (v := (nI 1)) hx hb dX5_readLine_180 (ic_1) ?_
      refine lv_goto (tgt := 185) hx hb dX5_readLine_181 (by decide) ?_
      have hK9 := K0_of hf hK
      exact hRet (nI 1) f fdraft fo1 _ _ _ _ hK9 rfl dX5_readLine_185 hP hD hS
  have hB164 : ∀ (f : Mem) (fdraft : Mem) (fo1 : Mem) (res : Int32 × Mem × Mem × Mem) (hf : p_X5_readLine_B164 f fdraft fo1 = some res) (hK : res = (r, fz, fdraftz, fo1z)), ∀ (H : Heap) (locs : List Loc) (ls : Array Slot), va_P G.1 vwCl (wX5 G ad (add 0) f ++ (wX0 G add fdraft ++ (wX4 G ao1 fo1))) H → va_D A (wX5 G ad (add 0) f ++ (wX0 G add fdraft ++ (wX4 G ao1 fo1))) → va_S A s.heap H locs → lv_has ls 2 [(0, .ref (ad 0)), (1, .ref (ao1 0))] → W p l e ({ frames := 7, cells := 0, slots := 0, locals := 141 }) s m args below meth c H locs 0 0 Q (F0 m 164 ls []) := by
    intro f fdraft fo1 res hf hK H locs ls hP hD hS hl
    unfold p_X5_readLine_B164 at hf
    refine lv_aload_n hx hb dX5_readLine_164 rfl (lv_at hl 0 rfl) ?_
    refine lv_iconst (v := (nI 2)) hx hb dX5_readLine_165 (ic_2) ?_
    refine lv_aload_n hx hb dX5_readLine_166 rfl (lv_at hl 1 rfl) ?_
    refine va_getN (C := RX4) (T := TX4) (N := 6) (ci := 4) (v := .int (fo1 0 2)) hx hb hts inX4 hown hT hP 12 rfl rfl 3 (Nat.le_of_ble_eq_true rfl) lk65 (fun _ h => h) rfl dX5_readLine_167 ?_
    obtain ⟨f_170, hc170, hf⟩ := bd_e hf
    refine cl_v_up (Wd := (wX5 G ad (add 0) f ++ (wX0 G add fdraft ++ (wX4 G ao1 fo1)))) (Wc := (wX5 G ad (add 0) f)) (W' := (wX5 G ad (add 0) f_170)) (W2 := (wX5 G ad (add 0) f_170 ++ (wX0 G add fdraft ++ (wX4 G ao1 fo1)))) (Wr := (wX0 G add fdraft ++ (wX4 G ao1 fo1))) [0] [1, 2, 3, 4, 5, 6, 7, 8, 9, 10, 11, 12, 13] rfl rfl rfl rfl rfl rfl (va_runV (As := [.int (nI 2), .int (fo1 0 2)]) (rest := []) hC (c_X5_refuse l G ad add f (nI 2) (fo1 0 2) f_170 hc170 _) (cwV 2 hts gX5_readLine_X5_refuse rfl rfl rfl (by decide +kernel) ⟨Nat.le_of_ble_eq_true rfl, Nat.le_of_ble_eq_true rfl⟩) ⟨Pc0_blind, va_recv hT hP (q0 := 0) (ci := 5) rfl rfl, fun U hU hW => Pc0_at (Wd := (wX5 G ad (add 0) f)) hE (hP.subm [0] rfl) (hD.sub [0] (by decide) rfl) hU hW⟩ rfl rfl hl.1 rfl (lv_room (Nat.le_of_ble_eq_true rfl)) dX5_readLine_170 ⟨Nat.zero_le _, Nat.zero_le _⟩) hS hA hP hD (fun H locs hP hD hS => ?_)
    exact hB173 f_170 fdraft fo1 _ hf hK _ _ _ hP hD hS (lv_sub hl [0] rfl)
  obtain ⟨res, hres, hK⟩ : ∃ res, p_X5_readLine f fdraft fo1 = some res ∧ res = (r, fz, fdraftz, fo1z) := ⟨_, hf, rfl⟩
  clear hf
  have hf := hres
  clear hres
  unfold p_X5_readLine at hf
  refine lv_aload_n hx hb dX5_readLine_0 rfl (lv_at hl 1 rfl) ?_
  obtain ⟨fo1_1, hc1, hf⟩ := bd_e hf
  refine cl_v_up (Wd := (wX5 G ad (add 0) f ++ (wX0 G add fdraft ++ (wX4 G ao1 fo1)))) (Wc := (wX4 G ao1 fo1)) (W' := (wX4 G ao1 fo1_1)) (W2 := (wX5 G ad (add 0) f ++ (wX0 G add fdraft ++ (wX4 G ao1 fo1_1)))) (Wr := (wX5 G ad (add 0) f ++ (wX0 G add fdraft))) [12, 13] [0, 1, 2, 3, 4, 5, 6, 7, 8, 9, 10, 11] rfl rfl rfl rfl rfl rfl (va_runVN (As := []) (rest := []) hC (c_X4_nextToken l G ao1 fo1 fo1_1 hc1 _) ⟨va_cnB 0 hts gX5_readLine_X4_nextToken_n59 rfl rfl rfl (hE.2.2 (RX5, 59, yX4_nextToken, "FeatherShares") (List.mem_of_getElem? (i := 52) rfl)) (hts (.initialized RX4) (by decide +kernel)) (by decide +kernel) ⟨Nat.le_of_ble_eq_true rfl, Nat.le_of_ble_eq_true rfl⟩, hts (.instanceMethod yX4_nextToken) (by decide +kernel), hts (.selects RX4 yX4_nextToken yX4_nextToken) (by decide +kernel)⟩ ⟨Pc0_blind, va_recv hT hP (q0 := 12) (ci := 4) rfl rfl, fun U hU hW => Pc0_at (Wd := (wX4 G ao1 fo1)) hE (hP.subm [12, 13] rfl) (hD.sub [12, 13] (by decide) rfl) hU hW⟩ rfl rfl hl.1 rfl (lv_room (Nat.le_of_ble_eq_true rfl)) dX5_readLine_1 ⟨Nat.zero_le _, Nat.zero_le _⟩) hS hA hP hD (fun H locs hP hD hS => ?_)
  refine lv_aload_n hx hb dX5_readLine_4 rfl (lv_at hl 1 rfl) ?_
  refine va_getN (C := RX4) (T := TX4) (N := 6) (ci := 4) (v := .int (fo1_1 0 3)) hx hb hts inX4 hown hT hP 12 rfl rfl 4 (Nat.le_of_ble_eq_true rfl) lk62 (fun _ h => h) rfl dX5_readLine_5 ?_
  refine lv_if_ne (tgt := 13) hx hb dX5_readLine_8 (by decide) (fun hc => ?_) (fun hc => ?_)
  · have hf := if_f hf hc
    refine lv_aload_n hx hb dX5_readLine_13 rfl (lv_at hl 1 rfl) ?_
    refine va_getN (C := RX4) (T := TX4) (N := 6) (ci := 4) (v := .int (fo1_1 0 3)) hx hb hts inX4 hown hT hP 12 rfl rfl 4 (Nat.le_of_ble_eq_true rfl) lk62 (fun _ h => h) rfl dX5_readLine_14 ?_
    refine lv_iconst (v := (nI 4)) hx hb dX5_readLine_17 (ic_4) ?_
    refine lv_icmp_ne (tgt := 32) hx hb dX5_readLine_18 (by decide) (fun hc => ?_) (fun hc => ?_)
    · have hf := if_f hf hc
      refine lv_aload_n hx hb dX5_readLine_32 rfl (lv_at hl 1 rfl) ?_
      obtain ⟨r33, hc33, hf⟩ := bd_e hf
      refine cl_i_ro (Wd := (wX5 G ad (add 0) f ++ (wX0 G add fdraft ++ (wX4 G ao1 fo1_1)))) (Wc := (wX4 G ao1 fo1_1)) [12, 13] rfl (va_runS (As := [.ref (ao1 0)]) (rest := []) hC (c_X5_lineNamed l G sk sv ao1 fo1_1 r33 hc33 _) (va_cwS 1 hts gX5_readLine_X5_lineNamed rfl rfl rfl (by decide +kernel) ⟨Nat.le_of_ble_eq_true rfl, Nat.le_of_ble_eq_true rfl⟩) ⟨Pc1_blind, fun U hU hW => Pc1_at (Wd := (wX4 G ao1 fo1_1)) hE hZ hS (fr_sub (Wd := (wX5 G ad (add 0) f ++ (wX0 G add fdraft ++ (wX4 G ao1 fo1_1)))) hD hS hA [12, 13] rfl) (hP.subm [12, 13] rfl) (hD.sub [12, 13] (by decide) rfl) hU hW⟩ rfl rfl hl.1 rfl (lv_room (Nat.le_of_ble_eq_true rfl)) dX5_readLine_33 ⟨Nat.zero_le _, Nat.zero_le _⟩) hS hA hP hD (fun H locs hP hD hS => ?_)
      by_cases hs0 : r33 = (nI 0)
      · have hf := if_t hf hs0
        refine lv_tableIn (tgt := 104) hx hb dX5_readLine_36 (by rw [hs0]; decide) (by rw [hs0]; decide) (by rw [hs0]; rfl) (by decide) ?_
        refine lv_aload_n hx hb dX5_readLine_104 rfl (lv_at hl 0 rfl) ?_
        refine lv_aload_n hx hb dX5_readLine_105 rfl (lv_at hl 1 rfl) ?_
        refine lv_iconst (v := (nI 0)) hx hb dX5_readLine_106 (ic_0) ?_
        obtain ⟨⟨f_107, fdraft_107, fo1_107⟩, hc107, hf⟩ := bd_e hf
        try dsimp only at hf
        refine cl_v_same (Wd := (wX5 G ad (add 0) f ++ (wX0 G add fdraft ++ (wX4 G ao1 fo1_1)))) (W' := (wX5 G ad (add 0) f_107 ++ (wX0 G add fdraft_107 ++ (wX4 G ao1 fo1_107)))) (va_runV (As := [.ref (ao1 0), .int (nI 0)]) (rest := []) hC (c_X5_readGoose l G ad add ao1 f fdraft fo1_1 (nI 0) f_107 fdraft_107 fo1_107 hc107 _) (cwV 2 hts gX5_readLine_X5_readGoose rfl rfl rfl (by decide +kernel) ⟨Nat.le_of_ble_eq_true rfl, Nat.le_of_ble_eq_true rfl⟩) ⟨Pc0_blind, va_recv hT hP (q0 := 0) (ci := 5) rfl rfl, fun U hU hW => Pc0_at hE hP hD hU hW⟩ rfl rfl hl.1 rfl (lv_room (Nat.le_of_ble_eq_true rfl)) dX5_readLine_107 ⟨Nat.zero_le _, Nat.zero_le _⟩) hS hA hD (fun H locs hP hD hS => ?_)
        refine lv_goto (tgt := 173) hx hb dX5_readLine_110 (by decide) ?_
        exact hB173 f_107 fdraft_107 fo1_107 _ hf hK _ _ _ hP hD hS (lv_sub hl [0] rfl)
      have hf := if_f hf hs0
      by_cases hs1 : r33 = (nI 1)
      · have hf := if_t hf hs1
        refine lv_tableIn (tgt := 113) hx hb dX5_readLine_36 (by rw [hs1]; decide) (by rw [hs1]; decide) (by rw [hs1]; rfl) (by decide) ?_
        refine lv_aload_n hx hb dX5_readLine_113 rfl (lv_at hl 0 rfl) ?_
        refine lv_aload_n hx hb dX5_readLine_114 rfl (lv_at hl 1 rfl) ?_
        refine lv_iconst (v := (nI 1)) hx hb dX5_readLine_115 (ic_1) ?_
        obtain ⟨⟨f_116, fdraft_116, fo1_116⟩, hc116, hf⟩ := bd_e hf
        try dsimp only at hf
        refine cl_v_same (Wd := (wX5 G ad (add 0) f ++ (wX0 G add fdraft ++ (wX4 G ao1 fo1_1)))) (W' := (wX5 G ad (add 0) f_116 ++ (wX0 G add fdraft_116 ++ (wX4 G ao1 fo1_116)))) (va_runV (As := [.ref (ao1 0), .int (nI 1)]) (rest := []) hC (c_X5_readGoose l G ad add ao1 f fdraft fo1_1 (nI 1) f_116 fdraft_116 fo1_116 hc116 _) (cwV 2 hts gX5_readLine_X5_readGoose rfl rfl rfl (by decide +kernel) ⟨Nat.le_of_ble_eq_true rfl, Nat.le_of_ble_eq_true rfl⟩) ⟨Pc0_blind, va_recv hT hP (q0 := 0) (ci := 5) rfl rfl, fun U hU hW => Pc0_at hE hP hD hU hW⟩ rfl rfl hl.1 rfl (lv_room (Nat.le_of_ble_eq_true rfl)) dX5_readLine_116 ⟨Nat.zero_le _, Nat.zero_le _⟩) hS hA hD (fun H locs hP hD hS => ?_)
        refine lv_goto (tgt := 173) hx hb dX5_readLine_119 (by decide) ?_
        exact hB173 f_116 fdraft_116 fo1_116 _ hf hK _ _ _ hP hD hS (lv_sub hl [0] rfl)
      have hf := if_f hf hs1
      by_cases hs2 : r33 = (nI 2)
      · have hf := if_t hf hs2
        refine lv_tableIn (tgt := 122) hx hb dX5_readLine_36 (by rw [hs2]; decide) (by rw [hs2]; decide) (by rw [hs2]; rfl) (by decide) ?_
        refine lv_aload_n hx hb dX5_readLine_122 rfl (lv_at hl 0 rfl) ?_
        refine lv_aload_n hx hb dX5_readLine_123 rfl (lv_at hl 1 rfl) ?_
        refine lv_iconst (v := (nI 2)) hx hb dX5_readLine_124 (ic_2) ?_
        obtain ⟨⟨f_125, fdraft_125, fo1_125⟩, hc125, hf⟩ := bd_e hf
        try dsimp only at hf
        refine cl_v_same (Wd := (wX5 G ad (add 0) f ++ (wX0 G add fdraft ++ (wX4 G ao1 fo1_1)))) (W' := (wX5 G ad (add 0) f_125 ++ (wX0 G add fdraft_125 ++ (wX4 G ao1 fo1_125)))) (va_runV (As := [.ref (ao1 0), .int (nI 2)]) (rest := []) hC (c_X5_readGoose l G ad add ao1 f fdraft fo1_1 (nI 2) f_125 fdraft_125 fo1_125 hc125 _) (cwV 2 hts gX5_readLine_X5_readGoose rfl rfl rfl (by decide +kernel) ⟨Nat.le_of_ble_eq_true rfl, Nat.le_of_ble_eq_true rfl⟩) ⟨Pc0_blind, va_recv hT hP (q0 := 0) (ci := 5) rfl rfl, fun U hU hW => Pc0_at hE hP hD hU hW⟩ rfl rfl hl.1 rfl (lv_room (Nat.le_of_ble_eq_true rfl)) dX5_readLine_125 ⟨Nat.zero_le _, Nat.zero_le _⟩) hS hA hD (fun H locs hP hD hS => ?_)
        refine lv_goto (tgt := 173) hx hb dX5_readLine_128 (by decide) ?_
        exact hB173 f_125 fdraft_125 fo1_125 _ hf hK _ _ _ hP hD hS (lv_sub hl [0] rfl)
      have hf := if_f hf hs2
      by_cases hs3 : r33 = (nI 3)
      · have hf := if_t hf hs3
        refine lv_tableIn (tgt := 131) hx hb dX5_readLine_36 (by rw [hs3]; decide) (by rw [hs3]; decide) (by rw [hs3]; rfl) (by decide) ?_
        refine lv_aload_n hx hb dX5_readLine_131 rfl (lv_at hl 0 rfl) ?_
        refine lv_aload_n hx hb dX5_readLine_132 rfl (lv_at hl 1 rfl) ?_
        refine lv_iconst (v := (nI 3)) hx hb dX5_readLine_133 (ic_3) ?_
        obtain ⟨⟨f_134, fdraft_134, fo1_134⟩, hc134, hf⟩ := bd_e hf
        try dsimp only at hf
        refine cl_v_same (Wd := (wX5 G ad (add 0) f ++ (wX0 G add fdraft ++ (wX4 G ao1 fo1_1)))) (W' := (wX5 G ad (add 0) f_134 ++ (wX0 G add fdraft_134 ++ (wX4 G ao1 fo1_134)))) (va_runV (As := [.ref (ao1 0), .int (nI 3)]) (rest := []) hC (c_X5_readGoose l G ad add ao1 f fdraft fo1_1 (nI 3) f_134 fdraft_134 fo1_134 hc134 _) (cwV 2 hts gX5_readLine_X5_readGoose rfl rfl rfl (by decide +kernel) ⟨Nat.le_of_ble_eq_true rfl, Nat.le_of_ble_eq_true rfl⟩) ⟨Pc0_blind, va_recv hT hP (q0 := 0) (ci := 5) rfl rfl, fun U hU hW => Pc0_at hE hP hD hU hW⟩ rfl rfl hl.1 rfl (lv_room (Nat.le_of_ble_eq_true rfl)) dX5_readLine_134 ⟨Nat.zero_le _, Nat.zero_le _⟩) hS hA hD (fun H locs hP hD hS => ?_)
        refine lv_goto (tgt := 173) hx hb dX5_readLine_137 (by decide) ?_
        exact hB173 f_134 fdraft_134 fo1_134 _ hf hK _ _ _ hP hD hS (lv_sub hl [0] rfl)
      have hf := if_f hf hs3
      by_cases hs4 : r33 = (nI 10)
      · have hf := if_t hf hs4
        refine lv_tableIn (tgt := 140) hx hb dX5_readLine_36 (by rw [hs4]; decide) (by rw [hs4]; decide) (by rw [hs4]; rfl) (by decide) ?_
        refine lv_aload_n hx hb dX5_readLine_140 rfl (lv_at hl 0 rfl) ?_
        refine lv_aload_n hx hb dX5_readLine_141 rfl (lv_at hl 1 rfl) ?_
        obtain ⟨⟨f_142, fdraft_142, fo1_142⟩, hc142, hf⟩ := bd_e hf
        try dsimp only at hf
        refine cl_v_same (Wd := (wX5 G ad (add 0) f ++ (wX0 G add fdraft ++ (wX4 G ao1 fo1_1)))) (W' := (wX5 G ad (add 0) f_142 ++ (wX0 G add fdraft_142 ++ (wX4 G ao1 fo1_142)))) (va_runV (As := [.ref (ao1 0)]) (rest := []) hC (c_X5_readShare l G ad add ao1 f fdraft fo1_1 f_142 fdraft_142 fo1_142 hc142 _) (cwV 1 hts gX5_readLine_X5_readShare rfl rfl rfl (by decide +kernel) ⟨Nat.le_of_ble_eq_true rfl, Nat.le_of_ble_eq_true rfl⟩) ⟨Pc0_blind, va_recv hT hP (q0 := 0) (ci := 5) rfl rfl, fun U hU hW => Pc0_at hE hP hD hU hW⟩ rfl rfl hl.1 rfl (lv_room (Nat.le_of_ble_eq_true rfl)) dX5_readLine_142 ⟨Nat.zero_le _, Nat.zero_le _⟩) hS hA hD (fun H locs hP hD hS => ?_)
        refine lv_goto (tgt := 173) hx hb dX5_readLine_145 (by decide) ?_
        exact hB173 f_142 fdraft_142 fo1_142 _ hf hK _ _ _ hP hD hS (lv_sub hl [0] rfl)
      have hf := if_f hf hs4
      by_cases hs5 : r33 = (nI 11)
      · have hf := if_t hf hs5
        refine lv_tableIn (tgt := 148) hx hb dX5_readLine_36 (by rw [hs5]; decide) (by rw [hs5]; decide) (by rw [hs5]; rfl) (by decide) ?_
        refine lv_aload_n hx hb dX5_readLine_148 rfl (lv_at hl 0 rfl) ?_
        refine lv_aload_n hx hb dX5_readLine_149 rfl (lv_at hl 1 rfl) ?_
        obtain ⟨⟨f_150, fdraft_150, fo1_150⟩, hc150, hf⟩ := bd_e hf
        try dsimp only at hf
        refine cl_v_same (Wd := (wX5 G ad (add 0) f ++ (wX0 G add fdraft ++ (wX4 G ao1 fo1_1)))) (W' := (wX5 G ad (add 0) f_150 ++ (wX0 G add fdraft_150 ++ (wX4 G ao1 fo1_150)))) (va_runV (As := [.ref (ao1 0)]) (rest := []) hC (c_X5_readMoney l G ad add ao1 f fdraft fo1_1 f_150 fdraft_150 fo1_150 hc150 _) (cwV 1 hts gX5_readLine_X5_readMoney rfl rfl rfl (by decide +kernel) ⟨Nat.le_of_ble_eq_true rfl, Nat.le_of_ble_eq_true rfl⟩) ⟨Pc0_blind, va_recv hT hP (q0 := 0) (ci := 5) rfl rfl, fun U hU hW => Pc0_at hE hP hD hU hW⟩ rfl rfl hl.1 rfl (lv_room (Nat.le_of_ble_eq_true rfl)) dX5_readLine_150 ⟨Nat.zero_le _, Nat.zero_le _⟩) hS hA hD (fun H locs hP hD hS => ?_)
        refine lv_goto (tgt := 173) hx hb dX5_readLine_153 (by decide) ?_
        exact hB173 f_150 fdraft_150 fo1_150 _ hf hK _ _ _ hP hD hS (lv_sub hl [0] rfl)
      have hf := if_f hf hs5
      by_cases hs6 : r33 = (nI 12)
      · have hf := if_t hf hs6
        refine lv_tableIn (tgt := 156) hx hb dX5_readLine_36 (by rw [hs6]; decide) (by rw [hs6]; decide) (by rw [hs6]; rfl) (by decide) ?_
        refine lv_aload_n hx hb dX5_readLine_156 rfl (lv_at hl 0 rfl) ?_
        refine lv_aload_n hx hb dX5_readLine_157 rfl (lv_at hl 1 rfl) ?_
        obtain ⟨⟨f_158, fdraft_158, fo1_158⟩, hc158, hf⟩ := bd_e hf
        try dsimp only at hf
        refine cl_v_same (Wd := (wX5 G ad (add 0) f ++ (wX0 G add fdraft ++ (wX4 G ao1 fo1_1)))) (W' := (wX5 G ad (add 0) f_158 ++ (wX0 G add fdraft_158 ++ (wX4 G ao1 fo1_158)))) (va_runV (As := [.ref (ao1 0)]) (rest := []) hC (c_X5_readTrade l G ad add ao1 f fdraft fo1_1 f_158 fdraft_158 fo1_158 hc158 _) (cwV 1 hts gX5_readLine_X5_readTrade rfl rfl rfl (by decide +kernel) ⟨Nat.le_of_ble_eq_true rfl, Nat.le_of_ble_eq_true rfl⟩) ⟨Pc0_blind, va_recv hT hP (q0 := 0) (ci := 5) rfl rfl, fun U hU hW => Pc0_at hE hP hD hU hW⟩ rfl rfl hl.1 rfl (lv_room (Nat.le_of_ble_eq_true rfl)) dX5_readLine_158 ⟨Nat.zero_le _, Nat.zero_le _⟩) hS hA hD (fun H locs hP hD hS => ?_)
        refine lv_goto (tgt := 173) hx hb dX5_readLine_161 (by decide) ?_
        exact hB173 f_158 fdraft_158 fo1_158 _ hf hK _ _ _ hP hD hS (lv_sub hl [0] rfl)
      have hf := if_f hf hs6
      refine tbl_mix (tgt := 164) hx hb dX5_readLine_36 (by decide) (fun k h1 h2 hk => ?_) ?_
      · have t_ : True := trivial
        have t0 := ne_int hs0 (by decide)
        have t1 := ne_int hs1 (by decide)
        have t2 := ne_int hs2 (by decide)
        have t3 := ne_int hs3 (by decide)
        have t4 := ne_int hs4 (by decide)
        have t5 := ne_int hs5 (by decide)
        have t6 := ne_int hs6 (by decide)
        have hk : k = 4 ∨ k = 5 ∨ k = 6 ∨ k = 7 ∨ k = 8 ∨ k = 9 := by omega
        rcases hk with rfl | rfl | rfl | rfl | rfl | rfl <;> rfl
      exact hB164 f fdraft fo1_1 _ hf hK _ _ _ hP hD hS (lv_sub hl [0, 1] rfl)
    · have hf := if_t hf hc
      refine lv_aload_n hx hb dX5_readLine_21 rfl (lv_at hl 0 rfl) ?_
      refine lv_iconst (v := (nI 1)) hx hb dX5_readLine_22 (ic_1) ?_
      refine lv_aload_n hx hb dX5_readLine_23 rfl (lv_at hl 1 rfl) ?_
      refine va_getN (C := RX4) (T := TX4) (N := 6) (ci := 4) (v := .int (fo1_1 0 2)) hx hb hts inX4 hown hT hP 12 rfl rfl 3 (Nat.le_of_ble_eq_true rfl) lk65 (fun _ h => h) rfl dX5_readLine_24 ?_
      obtain ⟨f_27, hc27, hf⟩ := bd_e hf
      refine cl_v_up (Wd := (wX5 G ad (add 0) f ++ (wX0 G add fdraft ++ (wX4 G ao1 fo1_1)))) (Wc := (wX5 G ad (add 0) f)) (W' := (wX5 G ad (add 0) f_27)) (W2 := (wX5 G ad (add 0) f_27 ++ (wX0 G add fdraft ++ (wX4 G ao1 fo1_1)))) (Wr := (wX0 G add fdraft ++ (wX4 G ao1 fo1_1))) [0] [1, 2, 3, 4, 5, 6, 7, 8, 9, 10, 11, 12, 13] rfl rfl rfl rfl rfl rfl (va_runV (As := [.int (nI 1), .int (fo1_1 0 2)]) (rest := []) hC (c_X5_refuse l G ad add f (nI 1) (fo1_1 0 2) f_27 hc27 _) (cwV 2 hts gX5_readLine_X5_refuse rfl rfl rfl (by decide +kernel) ⟨Nat.le_of_ble_eq_true rfl, Nat.le_of_ble_eq_true rfl⟩) ⟨Pc0_blind, va_recv hT hP (q0 := 0) (ci := 5) rfl rfl, fun U hU hW => Pc0_at (Wd := (wX5 G ad (add 0) f)) hE (hP.subm [0] rfl) (hD.sub [0] (by decide) rfl) hU hW⟩ rfl rfl hl.1 rfl (lv_room (Nat.le_of_ble_eq_true rfl)) dX5_readLine_27 ⟨Nat.zero_le _, Nat.zero_le _⟩) hS hA hP hD (fun H locs hP hD hS => ?_)
      refine lv_iconst (v := (nI 0)) hx hb dX5_readLine_30 (ic_0) ?_
      have hK9 := K0_of hf hK
      exact hRet (nI 0) f_27 fdraft fo1_1 _ _ _ _ hK9 rfl dX5_readLine_31 hP hD hS
  · have hf := if_t hf hc
    refine lv_iconst (v := (nI 0)) hx hb dX5_readLine_11 (ic_0) ?_
    have hK9 := K0_of hf hK
    exact hRet (nI 0) f fdraft fo1_1 _ _ _ _ hK9 rfl dX5_readLine_12 hP hD hS
noncomputable def p_X5_readAll_B72 (f : Mem) (fdraft : Mem) (fo1 : Mem) : Option (Mem × Mem × Mem) :=
  if ((f 0 5) >>> ((fdraft 0 0) &&& 31)) = 0 then
    (some (f, fdraft, fo1))
  else
    (Option.bind (p_X5_refuse f (nI 6) (fo1 0 0)) <| fun f_94 =>
     some (f_94, fdraft, fo1))
noncomputable def p_X5_readAll_L41  (z : Mem × Mem × Mem) : Option ((Mem × Mem × Mem) ⊕ (Mem × Mem × Mem)) :=
  match z with
  | (f_, fdraft_, fo1_) =>
    if (nI 160) < (f_ 0 0) then
      (some (Sum.inr (f_, fdraft_, fo1_)))
    else
      (Option.bind (p_X5_readLine f_ fdraft_ fo1_) <| fun (r53, f_53, fdraft_53, fo1_53) =>
       if r53 = 0 then
         (some (Sum.inr (f_53, fdraft_53, fo1_53)))
       else
         (some (Sum.inl ((mset 0 0 ((f_53 0 0) + (nI 1)) f_53), fdraft_53, fo1_53))))
noncomputable def p_X5_readAll (f : Mem) (fdraft : Mem) (fo1 : Mem) : Option (Mem × Mem × Mem) :=
  Option.bind (p_X0_clear fdraft) <| fun fdraft_4 =>
  Option.bind (p_X4_rewind fo1) <| fun fo1_38 =>
  Option.bind (lp (p_X5_readAll_L41) ((mset 0 5 (nI 0) (mset 0 4 (nI 0) (mset 0 3 (nI 0) (mset 0 2 (nI 0) (mset 0 1 (nI 0) (mset 0 0 (nI 0) f)))))), fdraft_4, fo1_38)) <| fun (f_41, fdraft_41, fo1_41) =>
  p_X5_readAll_B72 f_41 fdraft_41 fo1_41
set_option maxHeartbeats 4000000 in
set_option maxRecDepth 100000 in
theorem c_X5_readAll (l : Launch) (G : Gt) (sk sv : Nat → Nat) (ad : Nat → Nat) (add : Nat → Nat) (ao1 : Nat → Nat) (f : Mem) (fdraft : Mem) (fo1 : Mem) (fz : Mem) (fdraftz : Mem) (fo1z : Mem) (hf : p_X5_readAll f fdraft fo1 = some (fz, fdraftz, fo1z)) (sz : Nat) : Met l yX5_readAll wsX5_readAll ({ frames := 8, cells := 0, slots := 0, locals := 162 }) (Pc1 G sk sv sz [.ref (ad 0), .ref (ao1 0)] (wX5 G ad (add 0) f ++ (wX0 G add fdraft ++ (wX4 G ao1 fo1)))) (Qv0 G (va_A (wX5 G ad (add 0) f ++ (wX0 G add fdraft ++ (wX4 G ao1 fo1))) sz) (wX5 G ad (add 0) fz ++ (wX0 G add fdraftz ++ (wX4 G ao1 fo1z)))) 0 0 (va_A (wX5 G ad (add 0) f ++ (wX0 G add fdraft ++ (wX4 G ao1 fo1))) sz) := by
  refine metP1 (Qf := fun A => Qv0 G A (wX5 G ad (add 0) fz ++ (wX0 G add fdraftz ++ (wX4 G ao1 fo1z)))) cX5_readAll 2 (none) (by decide) rfl (Nat.le_of_ble_eq_true rfl) ?_
  intro p e s m below meth c A ls hC hr hlocks hin hE hZ hA hsz hP hD hS hl
  generalize hargs : ([.ref (ad 0), .ref (ao1 0)] : List Value).toArray = args at hC ⊢
  obtain ⟨hx, hb, hml, hown, hts⟩ := id hC
  have hT : va_K G.1 vwCl (tyL G) s := hE.1
  have hRet : ∀ (f9 : Mem) (fdraft9 : Mem) (fo19 : Mem) (H : Heap) (locs : List Loc) (ls : Array Slot) (pc : Nat) (hK9 : (f9, fdraft9, fo19) = (fz, fdraftz, fo1z)) (hdg : decode cX5_readAll pc = .ok (.return_, 1)), va_P G.1 vwCl (wX5 G ad (add 0) f9 ++ (wX0 G add fdraft9 ++ (wX4 G ao1 fo19))) H → va_D A (wX5 G ad (add 0) f9 ++ (wX0 G add fdraft9 ++ (wX4 G ao1 fo19))) → va_S A s.heap H locs → W p l e ({ frames := 8, cells := 0, slots := 0, locals := 162 }) s m args below meth c H locs 0 0 (MQ below (Qv0 G A (wX5 G ad (add 0) fz ++ (wX0 G add fdraftz ++ (wX4 G ao1 fo1z)))) args s 0 0 A) (F0 m pc ls []) := by
    intro f9 fdraft9 fo19 H locs ls pc hK9 hdg hP hD hS
    cases hK9
    exact W.vret hx hb hr (fun t ht hW => ⟨⟨(), rfl, trivial, by rw [ht]; exact hP, hD⟩, hS.F ht⟩) hS.2.2 hdg hlocks
  generalize MQ below (Qv0 G A (wX5 G ad (add 0) fz ++ (wX0 G add fdraftz ++ (wX4 G ao1 fo1z)))) args s 0 0 A = Q at hRet ⊢
  have lk34 := hts (.fieldLink RX5 34 "FeatherShares$TextReader" "namedGeese" "I") (by decide +kernel)
  have inX5 : ∀ w ∈ u_ws RX5 TX5 7, w ∈ wsX5_readAll := by decide +kernel
  have lk12 := hts (.fieldLink RX5 12 "FeatherShares$TextReader" "draft" "LFeatherShares$Flock;") (by decide +kernel)
  have lk49 := va_Nw.use (A := args) rfl (hE.2.1 (RX5, 49, "FeatherShares$Flock", "geese", "I", "FeatherShares") (List.mem_of_getElem? (i := 28) rfl))
  have inX0 : ∀ w ∈ u_ws RX0 TX0 13, w ∈ wsX5_readAll := by decide +kernel
  have lk52 := va_Nw.use (A := args) rfl (hE.2.1 (RX5, 52, "FeatherShares$Tape", "length", "I", "FeatherShares") (List.mem_of_getElem? (i := 29) rfl))
  have inX4 : ∀ w ∈ u_ws RX4 TX4 6, w ∈ wsX5_readAll := by decide +kernel
  have lk18 := hts (.fieldLink RX5 18 "FeatherShares$TextReader" "lines" "I") (by decide +kernel)
  have lk22 := hts (.fieldLink RX5 22 "FeatherShares$TextReader" "faultFound" "I") (by decide +kernel)
  have lk25 := hts (.fieldLink RX5 25 "FeatherShares$TextReader" "faultPlace" "I") (by decide +kernel)
  have lk28 := hts (.fieldLink RX5 28 "FeatherShares$TextReader" "toldShares" "I") (by decide +kernel)
  have lk31 := hts (.fieldLink RX5 31 "FeatherShares$TextReader" "toldMoney" "I") (by decide +kernel)
  have hl : lv_has ls 2 [(0, .ref (ad 0)), (1, .ref (ao1 0))] := hl
  have hK0 : (fz, fdraftz, fo1z) = (fz, fdraftz, fo1z) := rfl
  have hB72 : ∀ (f : Mem) (fdraft : Mem) (fo1 : Mem) (res : Mem × Mem × Mem) (hf : p_X5_readAll_B72 f fdraft fo1 = some res) (hK : res = (fz, fdraftz, fo1z)), ∀ (H : Heap) (locs : List Loc) (ls : Array Slot), va_P G.1 vwCl (wX5 G ad (add 0) f ++ (wX0 G add fdraft ++ (wX4 G ao1 fo1))) H → va_D A (wX5 G ad (add 0) f ++ (wX0 G add fdraft ++ (wX4 G ao1 fo1))) → va_S A s.heap H locs → lv_has ls 2 [(0, .ref (ad 0)), (1, .ref (ao1 0))] → W p l e ({ frames := 8, cells := 0, slots := 0, locals := 162 }) s m args below meth c H locs 0 0 Q (F0 m 72 ls []) := by
    intro f fdraft fo1 res hf hK H locs ls hP hD hS hl
    unfold p_X5_readAll_B72 at hf
    refine lv_aload_n hx hb dX5_readAll_72 rfl (lv_at hl 0 rfl) ?_
    refine va_get (C := RX5) (T := TX5) (N := 7) (ci := 5) (v := .int (f 0 5)) hx hb hts inX5 hown hT hP 0 rfl rfl 6 (Nat.le_of_ble_eq_true rfl) lk34 (fun _ h => h) rfl dX5_readAll_73 ?_
    refine lv_aload_n hx hb dX5_readAll_76 rfl (lv_at hl 0 rfl) ?_
    refine va_get (C := RX5) (T := TX5) (N := 7) (ci := 5) (v := .ref (add 0)) hx hb hts inX5 hown hT hP 0 rfl rfl 0 (Nat.le_of_ble_eq_true rfl) lk12 (fun _ h => h) rfl dX5_readAll_77 ?_
    refine va_getN (C := RX0) (T := TX0) (N := 13) (ci := 0) (v := .int (fdraft 0 0)) hx hb hts inX0 hown hT hP 1 rfl rfl 0 (Nat.le_of_ble_eq_true rfl) lk49 (fun _ h => h) rfl dX5_readAll_80 ?_
    refine lv_ishr hx hb dX5_readAll_83 ?_
    refine lv_if_eq (tgt := 97) hx hb dX5_readAll_84 (by decide) (fun hc => ?_) (fun hc => ?_)
    · have hf := if_t hf hc
      have hK9 := K0_of hf hK
      exact hRet f fdraft fo1 _ _ _ _ hK9 dX5_readAll_97 hP hD hS
    · have hf := if_f hf hc
      refine lv_aload_n hx hb dX5_readAll_87 rfl (lv_at hl 0 rfl) ?_
      refine lv_bipush (v := (nI 6)) hx hb dX5_readAll_88 (bi_6) ?_
      refine lv_aload_n hx hb dX5_readAll_90 rfl (lv_at hl 1 rfl) ?_
      refine va_getN (C := RX4) (T := TX4) (N := 6) (ci := 4) (v := .int (fo1 0 0)) hx hb hts inX4 hown hT hP 12 rfl rfl 1 (Nat.le_of_ble_eq_true rfl) lk52 (fun _ h => h) rfl dX5_readAll_91 ?_
      obtain ⟨f_94, hc94, hf⟩ := bd_e hf
      refine cl_v_up (Wd := (wX5 G ad (add 0) f ++ (wX0 G add fdraft ++ (wX4 G ao1 fo1)))) (Wc := (wX5 G ad (add 0) f)) (W' := (wX5 G ad (add 0) f_94)) (W2 := (wX5 G ad (add 0) f_94 ++ (wX0 G add fdraft ++ (wX4 G ao1 fo1)))) (Wr := (wX0 G add fdraft ++ (wX4 G ao1 fo1))) [0] [1, 2, 3, 4, 5, 6, 7, 8, 9, 10, 11, 12, 13] rfl rfl rfl rfl rfl rfl (va_runV (As := [.int (nI 6), .int (fo1 0 0)]) (rest := []) hC (c_X5_refuse l G ad add f (nI 6) (fo1 0 0) f_94 hc94 _) (cwV 2 hts gX5_readAll_X5_refuse rfl rfl rfl (by decide +kernel) ⟨Nat.le_of_ble_eq_true rfl, Nat.le_of_ble_eq_true rfl⟩) ⟨Pc0_blind, va_recv hT hP (q0 := 0) (ci := 5) rfl rfl, fun U hU hW => Pc0_at (Wd := (wX5 G ad (add 0) f)) hE (hP.subm [0] rfl) (hD.sub [0] (by decide) rfl) hU hW⟩ rfl rfl hl.1 rfl (lv_room (Nat.le_of_ble_eq_true rfl)) dX5_readAll_94 ⟨Nat.zero_le _, Nat.zero_le _⟩) hS hA hP hD (fun H locs hP hD hS => ?_)
      have hK9 := K0_of hf hK
      exact hRet f_94 fdraft fo1 _ _ _ _ hK9 dX5_readAll_97 hP hD hS
  obtain ⟨res, hres, hK⟩ : ∃ res, p_X5_readAll f fdraft fo1 = some res ∧ res = (fz, fdraftz, fo1z) := ⟨_, hf, rfl⟩
  clear hf
  have hf := hres
  clear hres
  unfold p_X5_readAll at hf
  refine lv_aload_n hx hb dX5_readAll_0 rfl (lv_at hl 0 rfl) ?_
  refine va_get (C := RX5) (T := TX5) (N := 7) (ci := 5) (v := .ref (add 0)) hx hb hts inX5 hown hT hP 0 rfl rfl 0 (Nat.le_of_ble_eq_true rfl) lk12 (fun _ h => h) rfl dX5_readAll_1 ?_
  obtain ⟨fdraft_4, hc4, hf⟩ := bd_e hf
  refine cl_v_up (Wd := (wX5 G ad (add 0) f ++ (wX0 G add fdraft ++ (wX4 G ao1 fo1)))) (Wc := (wX0 G add fdraft)) (W' := (wX0 G add fdraft_4)) (W2 := (wX5 G ad (add 0) f ++ (wX0 G add fdraft_4 ++ (wX4 G ao1 fo1)))) (Wr := (wX5 G ad (add 0) f ++ (wX4 G ao1 fo1))) [1, 2, 3, 4, 5, 6, 7, 8, 9, 10, 11] [0, 12, 13] rfl rfl rfl rfl rfl rfl (va_runVN (As := []) (rest := []) hC (c_X0_clear l G add fdraft fdraft_4 hc4 _) ⟨va_cnB 0 hts gX5_readAll_X0_clear_n37 rfl rfl rfl (hE.2.2 (RX5, 37, yX0_clear, "FeatherShares") (List.mem_of_getElem? (i := 50) rfl)) (hts (.initialized RX0) (by decide +kernel)) (by decide +kernel) ⟨Nat.le_of_ble_eq_true rfl, Nat.le_of_ble_eq_true rfl⟩, hts (.instanceMethod yX0_clear) (by decide +kernel), hts (.selects RX0 yX0_clear yX0_clear) (by decide +kernel)⟩ ⟨Pc0_blind, va_recv hT hP (q0 := 1) (ci := 0) rfl rfl, fun U hU hW => Pc0_at (Wd := (wX0 G add fdraft)) hE (hP.subm [1, 2, 3, 4, 5, 6, 7, 8, 9, 10, 11] rfl) (hD.sub [1, 2, 3, 4, 5, 6, 7, 8, 9, 10, 11] (by decide) rfl) hU hW⟩ rfl rfl hl.1 rfl (lv_room (Nat.le_of_ble_eq_true rfl)) dX5_readAll_4 ⟨Nat.zero_le _, Nat.zero_le _⟩) hS hA hP hD (fun H locs hP hD hS => ?_)
  refine lv_aload_n hx hb dX5_readAll_7 rfl (lv_at hl 0 rfl) ?_
  refine lv_iconst (v := (nI 0)) hx hb dX5_readAll_8 (ic_0) ?_
  refine va_put (C := RX5) (T := TX5) (N := 7) (ci := 5) (ty := .int) (v := .int (nI 0)) hx hb hts inX5 tyX5 tyX5_ok nmX5 hown hT hP hD hS 0 rfl rfl 1 (Nat.le_of_ble_eq_true rfl) lk18 (fun _ h => h) rfl (by decide +kernel) rfl rfl (Nat.le_of_ble_eq_true rfl) dX5_readAll_9 (fun H locs hP hD hS => ?_)
  have hP : va_P G.1 vwCl (wX5 G ad (add 0) (mset 0 0 (nI 0) f) ++ (wX0 G add fdraft_4 ++ (wX4 G ao1 fo1))) H := hP
  have hD : va_D A (wX5 G ad (add 0) (mset 0 0 (nI 0) f) ++ (wX0 G add fdraft_4 ++ (wX4 G ao1 fo1))) := hD
  refine lv_aload_n hx hb dX5_readAll_12 rfl (lv_at hl 0 rfl) ?_
  refine lv_iconst (v := (nI 0)) hx hb dX5_readAll_13 (ic_0) ?_
  refine va_put (C := RX5) (T := TX5) (N := 7) (ci := 5) (ty := .int) (v := .int (nI 0)) hx hb hts inX5 tyX5 tyX5_ok nmX5 hown hT hP hD hS 0 rfl rfl 2 (Nat.le_of_ble_eq_true rfl) lk22 (fun _ h => h) rfl (by decide +kernel) rfl rfl (Nat.le_of_ble_eq_true rfl) dX5_readAll_14 (fun H locs hP hD hS => ?_)
  have hP : va_P G.1 vwCl (wX5 G ad (add 0) (mset 0 1 (nI 0) (mset 0 0 (nI 0) f)) ++ (wX0 G add fdraft_4 ++ (wX4 G ao1 fo1))) H := hP
  have hD : va_D A (wX5 G ad (add 0) (mset 0 1 (nI 0) (mset 0 0 (nI 0) f)) ++ (wX0 G add fdraft_4 ++ (wX4 G ao1 fo1))) := hD
  refine lv_aload_n hx hb dX5_readAll_17 rfl (lv_at hl 0 rfl) ?_
  refine lv_iconst (v := (nI 0)) hx hb dX5_readAll_18 (ic_0) ?_
  refine va_put (C := RX5) (T := TX5) (N := 7) (ci := 5) (ty := .int) (v := .int (nI 0)) hx hb hts inX5 tyX5 tyX5_ok nmX5 hown hT hP hD hS 0 rfl rfl 3 (Nat.le_of_ble_eq_true rfl) lk25 (fun _ h => h) rfl (by decide +kernel) rfl rfl (Nat.le_of_ble_eq_true rfl) dX5_readAll_19 (fun H locs hP hD hS => ?_)
  have hP : va_P G.1 vwCl (wX5 G ad (add 0) (mset 0 2 (nI 0) (mset 0 1 (nI 0) (mset 0 0 (nI 0) f))) ++ (wX0 G add fdraft_4 ++ (wX4 G ao1 fo1))) H := hP
  have hD : va_D A (wX5 G ad (add 0) (mset 0 2 (nI 0) (mset 0 1 (nI 0) (mset 0 0 (nI 0) f))) ++ (wX0 G add fdraft_4 ++ (wX4 G ao1 fo1))) := hD
  refine lv_aload_n hx hb dX5_readAll_22 rfl (lv_at hl 0 rfl) ?_
  refine lv_iconst (v := (nI 0)) hx hb dX5_readAll_23 (ic_0) ?_
  refine va_put (C := RX5) (T := TX5) (N := 7) (ci := 5) (ty := .int) (v := .int (nI 0)) hx hb hts inX5 tyX5 tyX5_ok nmX5 hown hT hP hD hS 0 rfl rfl 4 (Nat.le_of_ble_eq_true rfl) lk28 (fun _ h => h) rfl (by decide +kernel) rfl rfl (Nat.le_of_ble_eq_true rfl) dX5_readAll_24 (fun H locs hP hD hS => ?_)
  have hP : va_P G.1 vwCl (wX5 G ad (add 0) (mset 0 3 (nI 0) (mset 0 2 (nI 0) (mset 0 1 (nI 0) (mset 0 0 (nI 0) f)))) ++ (wX0 G add fdraft_4 ++ (wX4 G ao1 fo1))) H := hP
  have hD : va_D A (wX5 G ad (add 0) (mset 0 3 (nI 0) (mset 0 2 (nI 0) (mset 0 1 (nI 0) (mset 0 0 (nI 0) f)))) ++ (wX0 G add fdraft_4 ++ (wX4 G ao1 fo1))) := hD
  refine lv_aload_n hx hb dX5_readAll_27 rfl (lv_at hl 0 rfl) ?_
  refine lv_iconst (v := (nI 0)) hx hb dX5_readAll_28 (ic_0) ?_
  refine va_put (C := RX5) (T := TX5) (N := 7) (ci := 5) (ty := .int) (v := .int (nI 0)) hx hb hts inX5 tyX5 tyX5_ok nmX5 hown hT hP hD hS 0 rfl rfl 5 (Nat.le_of_ble_eq_true rfl) lk31 (fun _ h => h) rfl (by decide +kernel) rfl rfl (Nat.le_of_ble_eq_true rfl) dX5_readAll_29 (fun H locs hP hD hS => ?_)
  have hP : va_P G.1 vwCl (wX5 G ad (add 0) (mset 0 4 (nI 0) (mset 0 3 (nI 0) (mset 0 2 (nI 0) (mset 0 1 (nI 0) (mset 0 0 (nI 0) f))))) ++ (wX0 G add fdraft_4 ++ (wX4 G ao1 fo1))) H := hP
  have hD : va_D A (wX5 G ad (add 0) (mset 0 4 (nI 0) (mset 0 3 (nI 0) (mset 0 2 (nI 0) (mset 0 1 (nI 0) (mset 0 0 (nI 0) f))))) ++ (wX0 G add fdraft_4 ++ (wX4 G ao1 fo1))) := hD
  refine lv_aload_n hx hb dX5_readAll_32 rfl (lv_at hl 0 rfl) ?_
  refine lv_iconst (v := (nI 0)) hx hb dX5_readAll_33 (ic_0) ?_
  refine va_put (C := RX5) (T := TX5) (N := 7) (ci := 5) (ty := .int) (v := .int (nI 0)) hx hb hts inX5 tyX5 tyX5_ok nmX5 hown hT hP hD hS 0 rfl rfl 6 (Nat.le_of_ble_eq_true rfl) lk34 (fun _ h => h) rfl (by decide +kernel) rfl rfl (Nat.le_of_ble_eq_true rfl) dX5_readAll_34 (fun H locs hP hD hS => ?_)
  have hP : va_P G.1 vwCl (wX5 G ad (add 0) (mset 0 5 (nI 0) (mset 0 4 (nI 0) (mset 0 3 (nI 0) (mset 0 2 (nI 0) (mset 0 1 (nI 0) (mset 0 0 (nI 0) f)))))) ++ (wX0 G add fdraft_4 ++ (wX4 G ao1 fo1))) H := hP
  have hD : va_D A (wX5 G ad (add 0) (mset 0 5 (nI 0) (mset 0 4 (nI 0) (mset 0 3 (nI 0) (mset 0 2 (nI 0) (mset 0 1 (nI 0) (mset 0 0 (nI 0) f)))))) ++ (wX0 G add fdraft_4 ++ (wX4 G ao1 fo1))) := hD
  refine lv_aload_n hx hb dX5_readAll_37 rfl (lv_at hl 1 rfl) ?_
  obtain ⟨fo1_38, hc38, hf⟩ := bd_e hf
  refine cl_v_up (Wd := (wX5 G ad (add 0) (mset 0 5 (nI 0) (mset 0 4 (nI 0) (mset 0 3 (nI 0) (mset 0 2 (nI 0) (mset 0 1 (nI 0) (mset 0 0 (nI 0) f)))))) ++ (wX0 G add fdraft_4 ++ (wX4 G ao1 fo1)))) (Wc := (wX4 G ao1 fo1)) (W' := (wX4 G ao1 fo1_38)) (W2 := (wX5 G ad (add 0) (mset 0 5 (nI 0) (mset 0 4 (nI 0) (mset 0 3 (nI 0) (mset 0 2 (nI 0) (mset 0 1 (nI 0) (mset 0 0 (nI 0) f)))))) ++ (wX0 G add fdraft_4 ++ (wX4 G ao1 fo1_38)))) (Wr := (wX5 G ad (add 0) (mset 0 5 (nI 0) (mset 0 4 (nI 0) (mset 0 3 (nI 0) (mset 0 2 (nI 0) (mset 0 1 (nI 0) (mset 0 0 (nI 0) f)))))) ++ (wX0 G add fdraft_4))) [12, 13] [0, 1, 2, 3, 4, 5, 6, 7, 8, 9, 10, 11] rfl rfl rfl rfl rfl rfl (va_runVN (As := []) (rest := []) hC (c_X4_rewind l G ao1 fo1 fo1_38 hc38 _) ⟨va_cnB 0 hts gX5_readAll_X4_rewind_n40 rfl rfl rfl (hE.2.2 (RX5, 40, yX4_rewind, "FeatherShares") (List.mem_of_getElem? (i := 51) rfl)) (hts (.initialized RX4) (by decide +kernel)) (by decide +kernel) ⟨Nat.le_of_ble_eq_true rfl, Nat.le_of_ble_eq_true rfl⟩, hts (.instanceMethod yX4_rewind) (by decide +kernel), hts (.selects RX4 yX4_rewind yX4_rewind) (by decide +kernel)⟩ ⟨Pc0_blind, va_recv hT hP (q0 := 12) (ci := 4) rfl rfl, fun U hU hW => Pc0_at (Wd := (wX4 G ao1 fo1)) hE (hP.subm [12, 13] rfl) (hD.sub [12, 13] (by decide) rfl) hU hW⟩ rfl rfl hl.1 rfl (lv_room (Nat.le_of_ble_eq_true rfl)) dX5_readAll_38 ⟨Nat.zero_le _, Nat.zero_le _⟩) hS hA hP hD (fun H locs hP hD hS => ?_)
  obtain ⟨⟨f_41, fdraft_41, fo1_41⟩, hlp, hf⟩ := bd_e hf
  refine lp_W1 (p_X5_readAll_L41) (fun z => match z with | (f_, fdraft_, fo1_) => ∀ (H : Heap) (locs : List Loc) (ls : Array Slot), va_P G.1 vwCl (wX5 G ad (add 0) f_ ++ (wX0 G add fdraft_ ++ (wX4 G ao1 fo1_))) H → va_D A (wX5 G ad (add 0) f_ ++ (wX0 G add fdraft_ ++ (wX4 G ao1 fo1_))) → va_S A s.heap H locs → lv_has ls 2 [(0, .ref (ad 0)), (1, .ref (ao1 0))] → W p l e ({ frames := 8, cells := 0, slots := 0, locals := 162 }) s m args below meth c H locs 0 0 Q (F0 m 41 ls [])) (fun z => match z with | (f_41, fdraft_41, fo1_41) => ∀ (H : Heap) (locs : List Loc) (ls : Array Slot), va_P G.1 vwCl (wX5 G ad (add 0) f_41 ++ (wX0 G add fdraft_41 ++ (wX4 G ao1 fo1_41))) H → va_D A (wX5 G ad (add 0) f_41 ++ (wX0 G add fdraft_41 ++ (wX4 G ao1 fo1_41))) → va_S A s.heap H locs → lv_has ls 2 [(0, .ref (ad 0)), (1, .ref (ao1 0))] → W p l e ({ frames := 8, cells := 0, slots := 0, locals := 162 }) s m args below meth c H locs 0 0 Q (F0 m 72 ls [])) ?_ hlp ?_ _ _ _ hP hD hS (lv_sub hl [0, 1] rfl)
  · clear hlp hf hK hP hD hS hl
    intro K41 hW41 hX41 
    rintro ⟨f_, fdraft_, fo1_⟩ res hf hK H locs ls hP hD hS hl
    unfold p_X5_readAll_L41 at hf
    dsimp only at hf
    refine lv_aload_n hx hb dX5_readAll_41 rfl (lv_at hl 0 rfl) ?_
    refine va_get (C := RX5) (T := TX5) (N := 7) (ci := 5) (v := .int (f_ 0 0)) hx hb hts inX5 hown hT hP 0 rfl rfl 1 (Nat.le_of_ble_eq_true rfl) lk18 (fun _ h => h) rfl dX5_readAll_42 ?_
    refine lv_sipush (v := (nI 160)) hx hb dX5_readAll_45 (si_160) ?_
    refine lv_icmp_gt (tgt := 72) hx hb dX5_readAll_48 (by decide) (fun hc => ?_) (fun hc => ?_)
    · have hf := if_t hf hc
      have hK9 := K_of hf hK
      have hK9 := hX41 _ hK9
      exact hK9 _ _ _ hP hD hS (lv_sub hl [0, 1] rfl)
    · have hf := if_f hf hc
      refine lv_aload_n hx hb dX5_readAll_51 rfl (lv_at hl 0 rfl) ?_
      refine lv_aload_n hx hb dX5_readAll_52 rfl (lv_at hl 1 rfl) ?_
      obtain ⟨⟨r53, f_53, fdraft_53, fo1_53⟩, hc53, hf⟩ := bd_e hf
      try dsimp only at hf
      refine cl_z_same (Wd := (wX5 G ad (add 0) f_ ++ (wX0 G add fdraft_ ++ (wX4 G ao1 fo1_)))) (W' := (wX5 G ad (add 0) f_53 ++ (wX0 G add fdraft_53 ++ (wX4 G ao1 fo1_53)))) (va_runV (As := [.ref (ao1 0)]) (rest := []) hC (c_X5_readLine l G sk sv ad add ao1 f_ fdraft_ fo1_ r53 f_53 fdraft_53 fo1_53 hc53 _) (cwV 1 hts gX5_readAll_X5_readLine rfl rfl rfl (by decide +kernel) ⟨Nat.le_of_ble_eq_true rfl, Nat.le_of_ble_eq_true rfl⟩) ⟨Pc1_blind, va_recv hT hP (q0 := 0) (ci := 5) rfl rfl, fun U hU hW => Pc1_at hE hZ hS (fr_all hD hS hA) hP hD hU hW⟩ rfl rfl hl.1 rfl (lv_room (Nat.le_of_ble_eq_true rfl)) dX5_readAll_53 ⟨Nat.zero_le _, Nat.zero_le _⟩) hS hA hD (fun H locs hn53 hP hD hS => ?_)
      refine lv_if_eq (tgt := 72) hx hb dX5_readAll_56 (by decide) (fun hc => ?_) (fun hc => ?_)
      · have hf := if_t hf hc
        have hK9 := K_of hf hK
        have hK9 := hX41 _ hK9
        exact hK9 _ _ _ hP hD hS (lv_sub hl [0, 1] rfl)
      · have hf := if_f hf hc
        refine lv_aload_n hx hb dX5_readAll_59 rfl (lv_at hl 0 rfl) ?_
        refine lv_dup hx hb dX5_readAll_60 rfl ?_
        refine va_get (C := RX5) (T := TX5) (N := 7) (ci := 5) (v := .int (f_53 0 0)) hx hb hts inX5 hown hT hP 0 rfl rfl 1 (Nat.le_of_ble_eq_true rfl) lk18 (fun _ h => h) rfl dX5_readAll_61 ?_
        refine lv_iconst (v := (nI 1)) hx hb dX5_readAll_64 (ic_1) ?_
        refine lv_iadd hx hb dX5_readAll_65 ?_
        refine va_put (C := RX5) (T := TX5) (N := 7) (ci := 5) (ty := .int) (v := .int ((f_53 0 0) + (nI 1))) hx hb hts inX5 tyX5 tyX5_ok nmX5 hown hT hP hD hS 0 rfl rfl 1 (Nat.le_of_ble_eq_true rfl) lk18 (fun _ h => h) rfl (by decide +kernel) rfl rfl (Nat.le_of_ble_eq_true rfl) dX5_readAll_66 (fun H locs hP hD hS => ?_)
        have hP : va_P G.1 vwCl (wX5 G ad (add 0) (mset 0 0 ((f_53 0 0) + (nI 1)) f_53) ++ (wX0 G add fdraft_53 ++ (wX4 G ao1 fo1_53))) H := hP
        have hD : va_D A (wX5 G ad (add 0) (mset 0 0 ((f_53 0 0) + (nI 1)) f_53) ++ (wX0 G add fdraft_53 ++ (wX4 G ao1 fo1_53))) := hD
        refine lv_goto (tgt := 41) hx hb dX5_readAll_69 (by decide) ?_
        have hK9 := K_of hf hK
        have hK9 := hW41 _ hK9
        exact hK9 _ _ _ hP hD hS (lv_sub hl [0, 1] rfl)
  · try dsimp only at hf
    show ∀ (H : Heap) (locs : List Loc) (ls : Array Slot), va_P G.1 vwCl (wX5 G ad (add 0) f_41 ++ (wX0 G add fdraft_41 ++ (wX4 G ao1 fo1_41))) H → va_D A (wX5 G ad (add 0) f_41 ++ (wX0 G add fdraft_41 ++ (wX4 G ao1 fo1_41))) → va_S A s.heap H locs → lv_has ls 2 [(0, .ref (ad 0)), (1, .ref (ao1 0))] → W p l e ({ frames := 8, cells := 0, slots := 0, locals := 162 }) s m args below meth c H locs 0 0 Q (F0 m 72 ls [])
    intro H locs ls hP hD hS hl
    exact hB72 f_41 fdraft_41 fo1_41 _ hf hK _ _ _ hP hD hS (lv_sub hl [0, 1] rfl)
noncomputable def p_X6_text (f : Mem) (fnow : Mem) (ftape : Mem) (freader : Mem) (fdraft : Mem) (fsightings : Mem) : Option (Int32 × Mem × Mem × Mem × Mem × Mem × Mem) :=
  Option.bind (p_X5_readAll freader fdraft ftape) <| fun (freader_8, fdraft_8, ftape_8) =>
  if (freader_8 0 1) = 0 then
    (Option.bind (p_X0_copyFrom fnow fdraft_8) <| fun fnow_51 =>
     some ((freader_8 0 0), (mset 0 0 (nI 0) f), fnow_51, (mset 0 0 (nI 0) ftape_8), freader_8, fdraft_8, (mset 0 0 (nI 0) fsightings)))
  else
    (some (((-10 : Int32) - (freader_8 0 2)), f, fnow, (mset 0 0 (nI 0) ftape_8), freader_8, fdraft_8, fsightings))
set_option maxHeartbeats 4000000 in
set_option maxRecDepth 100000 in
theorem c_X6_text (l : Launch) (G : Gt) (sk sv : Nat → Nat) (ad : Nat → Nat) (ado : Nat → Nat → Nat) (f : Mem) (fnow : Mem) (ftape : Mem) (freader : Mem) (fdraft : Mem) (fsightings : Mem) (r : Int32) (fz : Mem) (fnowz : Mem) (ftapez : Mem) (freaderz : Mem) (fdraftz : Mem) (fsightingsz : Mem) (hf : p_X6_text f fnow ftape freader fdraft fsightings = some (r, fz, fnowz, ftapez, freaderz, fdraftz, fsightingsz)) (sz : Nat) : Met l yX6_text wsX6_text ({ frames := 9, cells := 0, slots := 0, locals := 183 }) (Pc1 G sk sv sz [.ref (ad 0)] (wX6 G ad ado f ++ (wX0 G (ado 1) fnow ++ (wX4 G (ado 5) ftape ++ (wX5 G (ado 6) ((ado 7) 0) freader ++ (wX0 G (ado 7) fdraft ++ (wX3 G (ado 8) fsightings))))))) (Qi0 G (va_A (wX6 G ad ado f ++ (wX0 G (ado 1) fnow ++ (wX4 G (ado 5) ftape ++ (wX5 G (ado 6) ((ado 7) 0) freader ++ (wX0 G (ado 7) fdraft ++ (wX3 G (ado 8) fsightings)))))) sz) r (wX6 G ad ado fz ++ (wX0 G (ado 1) fnowz ++ (wX4 G (ado 5) ftapez ++ (wX5 G (ado 6) ((ado 7) 0) freaderz ++ (wX0 G (ado 7) fdraftz ++ (wX3 G (ado 8) fsightingsz))))))) 0 0 (va_A (wX6 G ad ado f ++ (wX0 G (ado 1) fnow ++ (wX4 G (ado 5) ftape ++ (wX5 G (ado 6) ((ado 7) 0) freader ++ (wX0 G (ado 7) fdraft ++ (wX3 G (ado 8) fsightings)))))) sz) := by
  refine metP1 (Qf := fun A => Qi0 G A r (wX6 G ad ado fz ++ (wX0 G (ado 1) fnowz ++ (wX4 G (ado 5) ftapez ++ (wX5 G (ado 6) ((ado 7) 0) freaderz ++ (wX0 G (ado 7) fdraftz ++ (wX3 G (ado 8) fsightingsz))))))) cX6_text 1 (some .int) (by decide) rfl (Nat.le_of_ble_eq_true rfl) ?_
  intro p e s m below meth c A ls hC hr hlocks hin hE hZ hA hsz hP hD hS hl
  generalize hargs : ([.ref (ad 0)] : List Value).toArray = args at hC ⊢
  obtain ⟨hx, hb, hml, hown, hts⟩ := id hC
  have hT : va_K G.1 vwCl (tyL G) s := hE.1
  have hRet : ∀ (r9 : Int32) (f9 : Mem) (fnow9 : Mem) (ftape9 : Mem) (freader9 : Mem) (fdraft9 : Mem) (fsightings9 : Mem) (H : Heap) (locs : List Loc) (ls : Array Slot) (pc : Nat) (hK9 : (r9, f9, fnow9, ftape9, freader9, fdraft9, fsightings9) = (r, fz, fnowz, ftapez, freaderz, fdraftz, fsightingsz)) (hdg : decode cX6_text pc = .ok (.ireturn, 1)), va_P G.1 vwCl (wX6 G ad ado f9 ++ (wX0 G (ado 1) fnow9 ++ (wX4 G (ado 5) ftape9 ++ (wX5 G (ado 6) ((ado 7) 0) freader9 ++ (wX0 G (ado 7) fdraft9 ++ (wX3 G (ado 8) fsightings9)))))) H → va_D A (wX6 G ad ado f9 ++ (wX0 G (ado 1) fnow9 ++ (wX4 G (ado 5) ftape9 ++ (wX5 G (ado 6) ((ado 7) 0) freader9 ++ (wX0 G (ado 7) fdraft9 ++ (wX3 G (ado 8) fsightings9)))))) → va_S A s.heap H locs → W p l e ({ frames := 9, cells := 0, slots := 0, locals := 183 }) s m args below meth c H locs 0 0 (MQ below (Qi0 G A r (wX6 G ad ado fz ++ (wX0 G (ado 1) fnowz ++ (wX4 G (ado 5) ftapez ++ (wX5 G (ado 6) ((ado 7) 0) freaderz ++ (wX0 G (ado 7) fdraftz ++ (wX3 G (ado 8) fsightingsz))))))) args s 0 0 A) (F0 m pc ls [.int r9]) := by
    intro r9 f9 fnow9 ftape9 freader9 fdraft9 fsightings9 H locs ls pc hK9 hdg hP hD hS
    cases hK9
    exact W.iret hx hb hr (fun t ht hW => ⟨⟨r, (), rfl, rfl, by rw [ht]; exact hP, hD⟩, hS.F ht⟩) hS.2.2 hdg hlocks
  generalize MQ below (Qi0 G A r (wX6 G ad ado fz ++ (wX0 G (ado 1) fnowz ++ (wX4 G (ado 5) ftapez ++ (wX5 G (ado 6) ((ado 7) 0) freaderz ++ (wX0 G (ado 7) fdraftz ++ (wX3 G (ado 8) fsightingsz))))))) args s 0 0 A = Q at hRet ⊢
  have lk37 := hts (.fieldLink RX6 37 "FeatherShares" "reader" "LFeatherShares$TextReader;") (by decide +kernel)
  have inX6 : ∀ w ∈ u_ws RX6 TX6 11, w ∈ wsX6_text := by decide +kernel
  have lk30 := hts (.fieldLink RX6 30 "FeatherShares" "tape" "LFeatherShares$Tape;") (by decide +kernel)
  have lk77 := va_Nw.use (A := args) rfl (hE.2.1 (RX6, 77, "FeatherShares$Tape", "length", "I", "FeatherShares") (List.mem_of_getElem? (i := 0) rfl))
  have inX4 : ∀ w ∈ u_ws RX4 TX4 6, w ∈ wsX6_text := by decide +kernel
  have lk84 := va_Nw.use (A := args) rfl (hE.2.1 (RX6, 84, "FeatherShares$TextReader", "faultFound", "I", "FeatherShares") (List.mem_of_getElem? (i := 1) rfl))
  have inX5 : ∀ w ∈ u_ws RX5 TX5 7, w ∈ wsX6_text := by decide +kernel
  have lk12 := hts (.fieldLink RX6 12 "FeatherShares" "now" "LFeatherShares$Flock;") (by decide +kernel)
  have lk90 := va_Nw.use (A := args) rfl (hE.2.1 (RX6, 90, "FeatherShares$TextReader", "draft", "LFeatherShares$Flock;", "FeatherShares") (List.mem_of_getElem? (i := 3) rfl))
  have lk44 := hts (.fieldLink RX6 44 "FeatherShares" "sightings" "LFeatherShares$Sightings;") (by decide +kernel)
  have lk97 := va_Nw.use (A := args) rfl (hE.2.1 (RX6, 97, "FeatherShares$Sightings", "size", "I", "FeatherShares") (List.mem_of_getElem? (i := 4) rfl))
  have inX3 : ∀ w ∈ u_ws RX3 TX3 5, w ∈ wsX6_text := by decide +kernel
  have lk23 := hts (.fieldLink RX6 23 "FeatherShares" "keptImages" "I") (by decide +kernel)
  have lk100 := va_Nw.use (A := args) rfl (hE.2.1 (RX6, 100, "FeatherShares$TextReader", "lines", "I", "FeatherShares") (List.mem_of_getElem? (i := 5) rfl))
  have lk87 := va_Nw.use (A := args) rfl (hE.2.1 (RX6, 87, "FeatherShares$TextReader", "faultPlace", "I", "FeatherShares") (List.mem_of_getElem? (i := 2) rfl))
  have hl : lv_has ls 1 [(0, .ref (ad 0))] := hl
  have hK0 : (r, fz, fnowz, ftapez, freaderz, fdraftz, fsightingsz) = (r, fz, fnowz, ftapez, freaderz, fdraftz, fsightingsz) := rfl
  obtain ⟨res, hres, hK⟩ : ∃ res, p_X6_text f fnow ftape freader fdraft fsightings = some res ∧ res = (r, fz, fnowz, ftapez, freaderz, fdraftz, fsightingsz) := ⟨_, hf, rfl⟩
  clear hf
  have hf := hres
  clear hres
  unfold p_X6_text at hf
  refine lv_aload_n hx hb dX6_text_0 rfl (lv_at hl 0 rfl) ?_
  refine va_get (C := RX6) (T := TX6) (N := 11) (ci := 6) (v := .ref ((ado 6) 0)) hx hb hts inX6 hown hT hP 0 rfl rfl 5 (Nat.le_of_ble_eq_true rfl) lk37 (fun _ h => h) rfl dX6_text_1 ?_
  refine lv_aload_n hx hb dX6_text_4 rfl (lv_at hl 0 rfl) ?_
  refine va_get (C := RX6) (T := TX6) (N := 11) (ci := 6) (v := .ref ((ado 5) 0)) hx hb hts inX6 hown hT hP 0 rfl rfl 4 (Nat.le_of_ble_eq_true rfl) lk30 (fun _ h => h) rfl dX6_text_5 ?_
  obtain ⟨⟨freader_8, fdraft_8, ftape_8⟩, hc8, hf⟩ := bd_e hf
  try dsimp only at hf
  refine cl_v_up (Wd := (wX6 G ad ado f ++ (wX0 G (ado 1) fnow ++ (wX4 G (ado 5) ftape ++ (wX5 G (ado 6) ((ado 7) 0) freader ++ (wX0 G (ado 7) fdraft ++ (wX3 G (ado 8) fsightings))))))) (Wc := (wX5 G (ado 6) ((ado 7) 0) freader ++ (wX0 G (ado 7) fdraft ++ (wX4 G (ado 5) ftape)))) (W' := (wX5 G (ado 6) ((ado 7) 0) freader_8 ++ (wX0 G (ado 7) fdraft_8 ++ (wX4 G (ado 5) ftape_8)))) (W2 := (wX6 G ad ado f ++ (wX0 G (ado 1) fnow ++ (wX4 G (ado 5) ftape_8 ++ (wX5 G (ado 6) ((ado 7) 0) freader_8 ++ (wX0 G (ado 7) fdraft_8 ++ (wX3 G (ado 8) fsightings))))))) (Wr := (wX6 G ad ado f ++ (wX0 G (ado 1) fnow ++ (wX3 G (ado 8) fsightings)))) [17, 18, 19, 20, 21, 22, 23, 24, 25, 26, 27, 28, 15, 16] [0, 1, 2, 3, 4, 5, 6, 7, 8, 9, 10, 11, 12, 13, 14, 29, 30, 31, 32, 33] rfl rfl rfl rfl rfl rfl (va_runVN (As := [.ref ((ado 5) 0)]) (rest := []) hC (c_X5_readAll l G sk sv (ado 6) (ado 7) (ado 5) freader fdraft ftape freader_8 fdraft_8 ftape_8 hc8 _) ⟨va_cnB 1 hts gX6_text_X5_readAll_n80 rfl rfl rfl (hE.2.2 (RX6, 80, yX5_readAll, "FeatherShares") (List.mem_of_getElem? (i := 7) rfl)) (hts (.initialized RX5) (by decide +kernel)) (by decide +kernel) ⟨Nat.le_of_ble_eq_true rfl, Nat.le_of_ble_eq_true rfl⟩, hts (.instanceMethod yX5_readAll) (by decide +kernel), hts (.selects RX5 yX5_readAll yX5_readAll) (by decide +kernel)⟩ ⟨Pc1_blind, va_recv hT hP (q0 := 17) (ci := 5) rfl rfl, fun U hU hW => Pc1_at (Wd := (wX5 G (ado 6) ((ado 7) 0) freader ++ (wX0 G (ado 7) fdraft ++ (wX4 G (ado 5) ftape)))) hE hZ hS (fr_sub (Wd := (wX6 G ad ado f ++ (wX0 G (ado 1) fnow ++ (wX4 G (ado 5) ftape ++ (wX5 G (ado 6) ((ado 7) 0) freader ++ (wX0 G (ado 7) fdraft ++ (wX3 G (ado 8) fsightings))))))) hD hS hA [17, 18, 19, 20, 21, 22, 23, 24, 25, 26, 27, 28, 15, 16] rfl) (hP.subm [17, 18, 19, 20, 21, 22, 23, 24, 25, 26, 27, 28, 15, 16] rfl) (hD.sub [17, 18, 19, 20, 21, 22, 23, 24, 25, 26, 27, 28, 15, 16] (by decide) rfl) hU hW⟩ rfl rfl hl.1 rfl (lv_room (Nat.le_of_ble_eq_true rfl)) dX6_text_8 ⟨Nat.zero_le _, Nat.zero_le _⟩) hS hA hP hD (fun H locs hP hD hS => ?_)
  refine lv_aload_n hx hb dX6_text_11 rfl (lv_at hl 0 rfl) ?_
  refine va_get (C := RX6) (T := TX6) (N := 11) (ci := 6) (v := .ref ((ado 5) 0)) hx hb hts inX6 hown hT hP 0 rfl rfl 4 (Nat.le_of_ble_eq_true rfl) lk30 (fun _ h => h) rfl dX6_text_12 ?_
  refine lv_iconst (v := (nI 0)) hx hb dX6_text_15 (ic_0) ?_
  refine va_putN (C := RX4) (T := TX4) (N := 6) (ci := 4) (ty := .int) (v := .int (nI 0)) hx hb hts inX4 tyX4 tyX4_ok nmX4 hown hT hP hD hS 15 rfl rfl 1 (Nat.le_of_ble_eq_true rfl) lk77 (fun _ h => h) rfl (by decide +kernel) rfl rfl (Nat.le_of_ble_eq_true rfl) dX6_text_16 (fun H locs hP hD hS => ?_)
  have hP : va_P G.1 vwCl (wX6 G ad ado f ++ (wX0 G (ado 1) fnow ++ (wX4 G (ado 5) (mset 0 0 (nI 0) ftape_8) ++ (wX5 G (ado 6) ((ado 7) 0) freader_8 ++ (wX0 G (ado 7) fdraft_8 ++ (wX3 G (ado 8) fsightings)))))) H := hP
  have hD : va_D A (wX6 G ad ado f ++ (wX0 G (ado 1) fnow ++ (wX4 G (ado 5) (mset 0 0 (nI 0) ftape_8) ++ (wX5 G (ado 6) ((ado 7) 0) freader_8 ++ (wX0 G (ado 7) fdraft_8 ++ (wX3 G (ado 8) fsightings)))))) := hD
  refine lv_aload_n hx hb dX6_text_19 rfl (lv_at hl 0 rfl) ?_
  refine va_get (C := RX6) (T := TX6) (N := 11) (ci := 6) (v := .ref ((ado 6) 0)) hx hb hts inX6 hown hT hP 0 rfl rfl 5 (Nat.le_of_ble_eq_true rfl) lk37 (fun _ h => h) rfl dX6_text_20 ?_
  refine va_getN (C := RX5) (T := TX5) (N := 7) (ci := 5) (v := .int (freader_8 0 1)) hx hb hts inX5 hown hT hP 17 rfl rfl 2 (Nat.le_of_ble_eq_true rfl) lk84 (fun _ h => h) rfl dX6_text_23 ?_
  refine lv_if_eq (tgt := 40) hx hb dX6_text_26 (by decide) (fun hc => ?_) (fun hc => ?_)
  · have hf := if_t hf hc
    refine lv_aload_n hx hb dX6_text_40 rfl (lv_at hl 0 rfl) ?_
    refine va_get (C := RX6) (T := TX6) (N := 11) (ci := 6) (v := .ref ((ado 1) 0)) hx hb hts inX6 hown hT hP 0 rfl rfl 0 (Nat.le_of_ble_eq_true rfl) lk12 (fun _ h => h) rfl dX6_text_41 ?_
    refine lv_aload_n hx hb dX6_text_44 rfl (lv_at hl 0 rfl) ?_
    refine va_get (C := RX6) (T := TX6) (N := 11) (ci := 6) (v := .ref ((ado 6) 0)) hx hb hts inX6 hown hT hP 0 rfl rfl 5 (Nat.le_of_ble_eq_true rfl) lk37 (fun _ h => h) rfl dX6_text_45 ?_
    refine va_getN (C := RX5) (T := TX5) (N := 7) (ci := 5) (v := .ref ((ado 7) 0)) hx hb hts inX5 hown hT hP 17 rfl rfl 0 (Nat.le_of_ble_eq_true rfl) lk90 (fun _ h => h) rfl dX6_text_48 ?_
    obtain ⟨fnow_51, hc51, hf⟩ := bd_e hf
    refine cl_v_up (Wd := (wX6 G ad ado f ++ (wX0 G (ado 1) fnow ++ (wX4 G (ado 5) (mset 0 0 (nI 0) ftape_8) ++ (wX5 G (ado 6) ((ado 7) 0) freader_8 ++ (wX0 G (ado 7) fdraft_8 ++ (wX3 G (ado 8) fsightings))))))) (Wc := (wX0 G (ado 1) fnow ++ (wX0 G (ado 7) fdraft_8))) (W' := (wX0 G (ado 1) fnow_51 ++ (wX0 G (ado 7) fdraft_8))) (W2 := (wX6 G ad ado f ++ (wX0 G (ado 1) fnow_51 ++ (wX4 G (ado 5) (mset 0 0 (nI 0) ftape_8) ++ (wX5 G (ado 6) ((ado 7) 0) freader_8 ++ (wX0 G (ado 7) fdraft_8 ++ (wX3 G (ado 8) fsightings))))))) (Wr := (wX6 G ad ado f ++ (wX4 G (ado 5) (mset 0 0 (nI 0) ftape_8) ++ (wX5 G (ado 6) ((ado 7) 0) freader_8 ++ (wX3 G (ado 8) fsightings))))) [4, 5, 6, 7, 8, 9, 10, 11, 12, 13, 14, 18, 19, 20, 21, 22, 23, 24, 25, 26, 27, 28] [0, 1, 2, 3, 15, 16, 17, 29, 30, 31, 32, 33] rfl rfl rfl rfl rfl rfl (va_runVN (As := [.ref ((ado 7) 0)]) (rest := []) hC (c_X0_copyFrom l G (ado 1) (ado 7) fnow fdraft_8 fnow_51 hc51 _) ⟨va_cnB 1 hts gX6_text_X0_copyFrom_n93 rfl rfl rfl (hE.2.2 (RX6, 93, yX0_copyFrom, "FeatherShares") (List.mem_of_getElem? (i := 8) rfl)) (hts (.initialized RX0) (by decide +kernel)) (by decide +kernel) ⟨Nat.le_of_ble_eq_true rfl, Nat.le_of_ble_eq_true rfl⟩, hts (.instanceMethod yX0_copyFrom) (by decide +kernel), hts (.selects RX0 yX0_copyFrom yX0_copyFrom) (by decide +kernel)⟩ ⟨Pc0_blind, va_recv hT hP (q0 := 4) (ci := 0) rfl rfl, fun U hU hW => Pc0_at (Wd := (wX0 G (ado 1) fnow ++ (wX0 G (ado 7) fdraft_8))) hE (hP.subm [4, 5, 6, 7, 8, 9, 10, 11, 12, 13, 14, 18, 19, 20, 21, 22, 23, 24, 25, 26, 27, 28] rfl) (hD.sub [4, 5, 6, 7, 8, 9, 10, 11, 12, 13, 14, 18, 19, 20, 21, 22, 23, 24, 25, 26, 27, 28] (by decide) rfl) hU hW⟩ rfl rfl hl.1 rfl (lv_room (Nat.le_of_ble_eq_true rfl)) dX6_text_51 ⟨Nat.zero_le _, Nat.zero_le _⟩) hS hA hP hD (fun H locs hP hD hS => ?_)
    refine lv_aload_n hx hb dX6_text_54 rfl (lv_at hl 0 rfl) ?_
    refine va_get (C := RX6) (T := TX6) (N := 11) (ci := 6) (v := .ref ((ado 8) 0)) hx hb hts inX6 hown hT hP 0 rfl rfl 6 (Nat.le_of_ble_eq_true rfl) lk44 (fun _ h => h) rfl dX6_text_55 ?_
    refine lv_iconst (v := (nI 0)) hx hb dX6_text_58 (ic_0) ?_
    refine va_putN (C := RX3) (T := TX3) (N := 5) (ci := 3) (ty := .int) (v := .int (nI 0)) hx hb hts inX3 tyX3 tyX3_ok nmX3 hown hT hP hD hS 29 rfl rfl 0 (Nat.le_of_ble_eq_true rfl) lk97 (fun _ h => h) rfl (by decide +kernel) rfl rfl (Nat.le_of_ble_eq_true rfl) dX6_text_59 (fun H locs hP hD hS => ?_)
    have hP : va_P G.1 vwCl (wX6 G ad ado f ++ (wX0 G (ado 1) fnow_51 ++ (wX4 G (ado 5) (mset 0 0 (nI 0) ftape_8) ++ (wX5 G (ado 6) ((ado 7) 0) freader_8 ++ (wX0 G (ado 7) fdraft_8 ++ (wX3 G (ado 8) (mset 0 0 (nI 0) fsightings))))))) H := hP
    have hD : va_D A (wX6 G ad ado f ++ (wX0 G (ado 1) fnow_51 ++ (wX4 G (ado 5) (mset 0 0 (nI 0) ftape_8) ++ (wX5 G (ado 6) ((ado 7) 0) freader_8 ++ (wX0 G (ado 7) fdraft_8 ++ (wX3 G (ado 8) (mset 0 0 (nI 0) fsightings))))))) := hD
    refine lv_aload_n hx hb dX6_text_62 rfl (lv_at hl 0 rfl) ?_
    refine lv_iconst (v := (nI 0)) hx hb dX6_text_63 (ic_0) ?_
    refine va_put (C := RX6) (T := TX6) (N := 11) (ci := 6) (ty := .int) (v := .int (nI 0)) hx hb hts inX6 tyX6 tyX6_ok nmX6 hown hT hP hD hS 0 rfl rfl 3 (Nat.le_of_ble_eq_true rfl) lk23 (fun _ h => h) rfl (by decide +kernel) rfl rfl (Nat.le_of_ble_eq_true rfl) dX6_text_64 (fun H locs hP hD hS => ?_)
    have hP : va_P G.1 vwCl (wX6 G ad ado (mset 0 0 (nI 0) f) ++ (wX0 G (ado 1) fnow_51 ++ (wX4 G (ado 5) (mset 0 0 (nI 0) ftape_8) ++ (wX5 G (ado 6) ((ado 7) 0) freader_8 ++ (wX0 G (ado 7) fdraft_8 ++ (wX3 G (ado 8) (mset 0 0 (nI 0) fsightings))))))) H := hP
    have hD : va_D A (wX6 G ad ado (mset 0 0 (nI 0) f) ++ (wX0 G (ado 1) fnow_51 ++ (wX4 G (ado 5) (mset 0 0 (nI 0) ftape_8) ++ (wX5 G (ado 6) ((ado 7) 0) freader_8 ++ (wX0 G (ado 7) fdraft_8 ++ (wX3 G (ado 8) (mset 0 0 (nI 0) fsightings))))))) := hD
    refine lv_aload_n hx hb dX6_text_67 rfl (lv_at hl 0 rfl) ?_
    refine va_get (C := RX6) (T := TX6) (N := 11) (ci := 6) (v := .ref ((ado 6) 0)) hx hb hts inX6 hown hT hP 0 rfl rfl 5 (Nat.le_of_ble_eq_true rfl) lk37 (fun _ h => h) rfl dX6_text_68 ?_
    refine va_getN (C := RX5) (T := TX5) (N := 7) (ci := 5) (v := .int (freader_8 0 0)) hx hb hts inX5 hown hT hP 17 rfl rfl 1 (Nat.le_of_ble_eq_true rfl) lk100 (fun _ h => h) rfl dX6_text_71 ?_
    have hK9 := K0_of hf hK
    exact hRet (freader_8 0 0) (mset 0 0 (nI 0) f) fnow_51 (mset 0 0 (nI 0) ftape_8) freader_8 fdraft_8 (mset 0 0 (nI 0) fsightings) _ _ _ _ hK9 dX6_text_74 hP hD hS
  · have hf := if_f hf hc
    refine lv_bipush (v := (-10 : Int32)) hx hb dX6_text_29 (bi_m10) ?_
    refine lv_aload_n hx hb dX6_text_31 rfl (lv_at hl 0 rfl) ?_
    refine va_get (C := RX6) (T := TX6) (N := 11) (ci := 6) (v := .ref ((ado 6) 0)) hx hb hts inX6 hown hT hP 0 rfl rfl 5 (Nat.le_of_ble_eq_true rfl) lk37 (fun _ h => h) rfl dX6_text_32 ?_
    refine va_getN (C := RX5) (T := TX5) (N := 7) (ci := 5) (v := .int (freader_8 0 2)) hx hb hts inX5 hown hT hP 17 rfl rfl 3 (Nat.le_of_ble_eq_true rfl) lk87 (fun _ h => h) rfl dX6_text_35 ?_
    refine lv_isub hx hb dX6_text_38 ?_
    have hK9 := K0_of hf hK
    exact hRet ((-10 : Int32) - (freader_8 0 2)) f fnow (mset 0 0 (nI 0) ftape_8) freader_8 fdraft_8 fsightings _ _ _ _ hK9 dX6_text_39 hP hD hS
