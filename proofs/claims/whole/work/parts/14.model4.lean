noncomputable def p_X7_eggs (f : Mem) (x1 : Int32) (x2 : Int32) : Option (Int32 × Mem) :=
  Option.bind (p_X7_isOwner x1) <| fun r1 =>
  if r1 = 0 then
    (some ((-1 : Int32), f))
  else
    (Option.bind (p_X7_in ((x2).toInt64) (lN 0) (60 : Int64)) <| fun r13 =>
     if r13 = 0 then
       (some ((-1 : Int32), f))
     else
       (Option.bind (p_X7_weeksGo f x2) <| fun f_23 =>
        gd (inb ((nI 254) + x1) 360) <|
        some ((f_23 1 ((nI 254) + x1).toNatClampNeg), f_23)))
set_option maxHeartbeats 4000000 in
set_option maxRecDepth 100000 in
theorem c_X7_eggs (l : Launch) (G : Gt) (ad : Nat → Nat) (f : Mem) (x1 : Int32) (x2 : Int32) (r : Int32) (fz : Mem) (hf : p_X7_eggs f x1 x2 = some (r, fz)) (sz : Nat) : Met l yX7_eggs wsX7_eggs ({ frames := 6, cells := 0, slots := 0, locals := 130 }) (Pc0 G sz [.ref (ad 0), .int x1, .int x2] (wX7 G ad f)) (Qi0 G (va_A (wX7 G ad f) sz) r (wX7 G ad fz)) 0 0 (va_A (wX7 G ad f) sz) := by
  refine metP (Qf := fun A => Qi0 G A r (wX7 G ad fz)) cX7_eggs 3 (some .int) (by decide) rfl (Nat.le_of_ble_eq_true rfl) ?_
  intro p e s m below meth c A ls hC hr hlocks hin hE hA hsz hP hD hS hl
  generalize hargs : ([.ref (ad 0), .int x1, .int x2] : List Value).toArray = args at hC ⊢
  obtain ⟨hx, hb, hml, hown, hts⟩ := id hC
  have hT : va_K G.1 vwCl (tyL G) s := hE.1
  have hRet : ∀ (r9 : Int32) (f9 : Mem) (H : Heap) (locs : List Loc) (ls : Array Slot) (pc : Nat) (hK9 : (r9, f9) = (r, fz)) (hdg : decode cX7_eggs pc = .ok (.ireturn, 1)), va_P G.1 vwCl (wX7 G ad f9) H → va_D A (wX7 G ad f9) → va_S A s.heap H locs → W p l e ({ frames := 6, cells := 0, slots := 0, locals := 130 }) s m args below meth c H locs 0 0 (MQ below (Qi0 G A r (wX7 G ad fz)) args s 0 0 A) (F0 m pc ls [.int r9]) := by
    intro r9 f9 H locs ls pc hK9 hdg hP hD hS
    cases hK9
    exact W.iret hx hb hr (fun t ht hW => ⟨⟨r, (), rfl, rfl, by rw [ht]; exact hP, hD⟩, hS.F ht⟩) hS.2.2 hdg hlocks
  generalize MQ below (Qi0 G A r (wX7 G ad fz)) args s 0 0 A = Q at hRet ⊢
  have lk7 := hts (.fieldLink RX7 7 "FeatherSharesModel" "state" "[I") (by decide +kernel)
  have inX7 : ∀ w ∈ u_ws RX7 TX7 34, w ∈ wsX7_eggs := by decide +kernel
  have hl : lv_has ls 3 [(0, .ref (ad 0)), (1, .int x1), (2, .int x2)] := hl
  have hK0 : (r, fz) = (r, fz) := rfl
  obtain ⟨res, hres, hK⟩ : ∃ res, p_X7_eggs f x1 x2 = some res ∧ res = (r, fz) := ⟨_, hf, rfl⟩
  clear hf
  have hf := hres
  clear hres
  unfold p_X7_eggs at hf
  refine lv_iload_n hx hb dX7_eggs_0 rfl (lv_at hl 1 rfl) ?_
  obtain ⟨r1, hc1, hf⟩ := bd_e hf
  refine cl_z_ro (Wd := (wX7 G ad f)) (Wc := ([] : va_W)) [] rfl (va_runS (As := [.int x1]) (rest := []) hC (c_X7_isOwner l G x1 r1 hc1 _) (va_cwS 1 hts gX7_eggs_X7_isOwner rfl rfl rfl (by decide +kernel) ⟨Nat.le_of_ble_eq_true rfl, Nat.le_of_ble_eq_true rfl⟩) ⟨Pc0_blind, fun U hU hW => Pc0_at (Wd := ([] : va_W)) hE (hP.subm [] rfl) (hD.sub [] (by decide) rfl) hU hW⟩ rfl rfl hl.1 rfl (lv_room (Nat.le_of_ble_eq_true rfl)) dX7_eggs_1 ⟨Nat.zero_le _, Nat.zero_le _⟩) hS hA hP hD (fun H locs hn1 hP hD hS => ?_)
  refine lv_if_eq (tgt := 19) hx hb dX7_eggs_4 (by decide) (fun hc => ?_) (fun hc => ?_)
  · have hf := if_t hf hc
    refine lv_iconst (v := (-1 : Int32)) hx hb dX7_eggs_19 (ic_m1) ?_
    have hK9 := K0_of hf hK
    exact hRet (-1 : Int32) f _ _ _ _ hK9 dX7_eggs_20 hP hD hS
  · have hf := if_f hf hc
    refine lv_iload_n hx hb dX7_eggs_7 rfl (lv_at hl 2 rfl) ?_
    refine lv_i2l (v := ((x2).toInt64)) hx hb dX7_eggs_8 rfl ?_
    refine lv_lconst (v := (lN 0)) hx hb dX7_eggs_9 rfl ?_
    refine W.ldc2 (v := (60 : Int64)) hx hb hown (hts (.constantLong RX7 222 (60 : Int64)) (by decide +kernel)) rfl dX7_eggs_10 ?_
    refine W.eq (g2 := F0 m 13 ls [.long (60 : Int64), .long (lN 0), .long ((x2).toInt64)]) rfl ?_
    obtain ⟨r13, hc13, hf⟩ := bd_e hf
    refine cl_z_ro (Wd := (wX7 G ad f)) (Wc := ([] : va_W)) [] rfl (va_runS (As := [.long ((x2).toInt64), .long (lN 0), .long (60 : Int64)]) (rest := []) hC (c_X7_in l G ((x2).toInt64) (lN 0) (60 : Int64) r13 hc13 _) (va_cwS 3 hts gX7_eggs_X7_in rfl rfl rfl (by decide +kernel) ⟨Nat.le_of_ble_eq_true rfl, Nat.le_of_ble_eq_true rfl⟩) ⟨Pc0_blind, fun U hU hW => Pc0_at (Wd := ([] : va_W)) hE (hP.subm [] rfl) (hD.sub [] (by decide) rfl) hU hW⟩ rfl rfl hl.1 rfl (lv_room (Nat.le_of_ble_eq_true rfl)) dX7_eggs_13 ⟨Nat.zero_le _, Nat.zero_le _⟩) hS hA hP hD (fun H locs hn13 hP hD hS => ?_)
    refine lv_if_ne (tgt := 21) hx hb dX7_eggs_16 (by decide) (fun hc => ?_) (fun hc => ?_)
    · have hf := if_f hf hc
      refine lv_aload_n hx hb dX7_eggs_21 rfl (lv_at hl 0 rfl) ?_
      refine lv_iload_n hx hb dX7_eggs_22 rfl (lv_at hl 2 rfl) ?_
      obtain ⟨f_23, hc23, hf⟩ := bd_e hf
      refine cl_v_same (Wd := (wX7 G ad f)) (W' := (wX7 G ad f_23)) (va_runV (As := [.int x2]) (rest := []) hC (c_X7_weeksGo l G ad f x2 f_23 hc23 _) (cwV 1 hts gX7_eggs_X7_weeksGo rfl rfl rfl (by decide +kernel) ⟨Nat.le_of_ble_eq_true rfl, Nat.le_of_ble_eq_true rfl⟩) ⟨Pc0_blind, va_recv hT hP (q0 := 0) (ci := 7) rfl rfl, fun U hU hW => Pc0_at hE hP hD hU hW⟩ rfl rfl hl.1 rfl (lv_room (Nat.le_of_ble_eq_true rfl)) dX7_eggs_23 ⟨Nat.zero_le _, Nat.zero_le _⟩) hS hA hD (fun H locs hP hD hS => ?_)
      refine lv_aload_n hx hb dX7_eggs_26 rfl (lv_at hl 0 rfl) ?_
      refine va_get (C := RX7) (T := TX7) (N := 34) (ci := 7) (v := .ref (ad 1)) hx hb hts inX7 hown hT hP 0 rfl rfl 0 (Nat.le_of_ble_eq_true rfl) lk7 (fun _ h => h) rfl dX7_eggs_27 ?_
      refine lv_sipush (v := (nI 254)) hx hb dX7_eggs_30 (si_254) ?_
      refine lv_iload_n hx hb dX7_eggs_33 rfl (lv_at hl 1 rfl) ?_
      refine lv_iadd hx hb dX7_eggs_34 ?_
      obtain ⟨hg, hf⟩ := gd_e hf
      refine va_iald (f := f_23 1) hx hb hT hP 1 0 rfl rfl (inb_e hg) dX7_eggs_35 ?_
      have hK9 := K0_of hf hK
      exact hRet (f_23 1 ((nI 254) + x1).toNatClampNeg) f_23 _ _ _ _ hK9 dX7_eggs_36 hP hD hS
    · have hf := if_t hf hc
      refine lv_iconst (v := (-1 : Int32)) hx hb dX7_eggs_19 (ic_m1) ?_
      have hK9 := K0_of hf hK
      exact hRet (-1 : Int32) f _ _ _ _ hK9 dX7_eggs_20 hP hD hS
noncomputable def p_X7_bare_L32 (x1 : Int32) (x2 : Int32) (z : Int32 × Mem) : Option ((Int32 × Mem) ⊕ (Mem ⊕ (Int32 × Mem))) :=
  match z with
  | (x3, f_) =>
    if (nI 60) < x3 then
      (some (Sum.inr (Sum.inl f_)))
    else
      (Option.bind (p_X7_feathersOn f_ (nI 240) x1) <| fun r43 =>
       if x2 < r43 then
         (Option.bind (p_X7_weekOn f_ (nI 240) (nI 1)) <| fun (r57, f_57) =>
          some (Sum.inl ((x3 + nI 1), f_57)))
       else
         (some (Sum.inr (Sum.inr (x3, f_)))))
noncomputable def p_X7_bare (f : Mem) (x1 : Int32) (x2 : Int32) : Option (Int32 × Mem) :=
  Option.bind (p_X7_isGoose f x1) <| fun r2 =>
  if r2 = 0 then
    (some ((-1 : Int32), f))
  else
    (Option.bind (p_X7_in ((x2).toInt64) (lN 0) (495 : Int64)) <| fun r14 =>
     if r14 = 0 then
       (some ((-1 : Int32), f))
     else
       (Option.bind (p_X7_copies f (nI 0) (nI 240)) <| fun f_27 =>
        Option.bind (lp (p_X7_bare_L32 x1 x2) ((nI 0), f_27)) <| Sum.elim (fun f_32 =>
          some ((-4 : Int32), f_32)) some))
set_option maxHeartbeats 4000000 in
set_option maxRecDepth 100000 in
theorem c_X7_bare (l : Launch) (G : Gt) (ad : Nat → Nat) (f : Mem) (x1 : Int32) (x2 : Int32) (r : Int32) (fz : Mem) (hf : p_X7_bare f x1 x2 = some (r, fz)) (sz : Nat) : Met l yX7_bare wsX7_bare ({ frames := 5, cells := 0, slots := 0, locals := 108 }) (Pc0 G sz [.ref (ad 0), .int x1, .int x2] (wX7 G ad f)) (Qi0 G (va_A (wX7 G ad f) sz) r (wX7 G ad fz)) 0 0 (va_A (wX7 G ad f) sz) := by
  refine metP (Qf := fun A => Qi0 G A r (wX7 G ad fz)) cX7_bare 4 (some .int) (by decide) rfl (Nat.le_of_ble_eq_true rfl) ?_
  intro p e s m below meth c A ls hC hr hlocks hin hE hA hsz hP hD hS hl
  generalize hargs : ([.ref (ad 0), .int x1, .int x2] : List Value).toArray = args at hC ⊢
  obtain ⟨hx, hb, hml, hown, hts⟩ := id hC
  have hT : va_K G.1 vwCl (tyL G) s := hE.1
  have hRet : ∀ (r9 : Int32) (f9 : Mem) (H : Heap) (locs : List Loc) (ls : Array Slot) (pc : Nat) (hK9 : (r9, f9) = (r, fz)) (hdg : decode cX7_bare pc = .ok (.ireturn, 1)), va_P G.1 vwCl (wX7 G ad f9) H → va_D A (wX7 G ad f9) → va_S A s.heap H locs → W p l e ({ frames := 5, cells := 0, slots := 0, locals := 108 }) s m args below meth c H locs 0 0 (MQ below (Qi0 G A r (wX7 G ad fz)) args s 0 0 A) (F0 m pc ls [.int r9]) := by
    intro r9 f9 H locs ls pc hK9 hdg hP hD hS
    cases hK9
    exact W.iret hx hb hr (fun t ht hW => ⟨⟨r, (), rfl, rfl, by rw [ht]; exact hP, hD⟩, hS.F ht⟩) hS.2.2 hdg hlocks
  generalize MQ below (Qi0 G A r (wX7 G ad fz)) args s 0 0 A = Q at hRet ⊢
  have hl : lv_has ls 4 [(0, .ref (ad 0)), (1, .int x1), (2, .int x2)] := hl
  have hK0 : (r, fz) = (r, fz) := rfl
  obtain ⟨res, hres, hK⟩ : ∃ res, p_X7_bare f x1 x2 = some res ∧ res = (r, fz) := ⟨_, hf, rfl⟩
  clear hf
  have hf := hres
  clear hres
  unfold p_X7_bare at hf
  refine lv_aload_n hx hb dX7_bare_0 rfl (lv_at hl 0 rfl) ?_
  refine lv_iload_n hx hb dX7_bare_1 rfl (lv_at hl 1 rfl) ?_
  obtain ⟨r2, hc2, hf⟩ := bd_e hf
  refine cl_z_same (Wd := (wX7 G ad f)) (W' := (wX7 G ad f)) (va_runV (As := [.int x1]) (rest := []) hC (c_X7_isGoose l G ad f x1 r2 hc2 _) (cwV 1 hts gX7_bare_X7_isGoose rfl rfl rfl (by decide +kernel) ⟨Nat.le_of_ble_eq_true rfl, Nat.le_of_ble_eq_true rfl⟩) ⟨Pc0_blind, va_recv hT hP (q0 := 0) (ci := 7) rfl rfl, fun U hU hW => Pc0_at hE hP hD hU hW⟩ rfl rfl hl.1 rfl (lv_room (Nat.le_of_ble_eq_true rfl)) dX7_bare_2 ⟨Nat.zero_le _, Nat.zero_le _⟩) hS hA hD (fun H locs hn2 hP hD hS => ?_)
  refine lv_if_eq (tgt := 20) hx hb dX7_bare_5 (by decide) (fun hc => ?_) (fun hc => ?_)
  · have hf := if_t hf hc
    refine lv_iconst (v := (-1 : Int32)) hx hb dX7_bare_20 (ic_m1) ?_
    have hK9 := K0_of hf hK
    exact hRet (-1 : Int32) f _ _ _ _ hK9 dX7_bare_21 hP hD hS
  · have hf := if_f hf hc
    refine lv_iload_n hx hb dX7_bare_8 rfl (lv_at hl 2 rfl) ?_
    refine lv_i2l (v := ((x2).toInt64)) hx hb dX7_bare_9 rfl ?_
    refine lv_lconst (v := (lN 0)) hx hb dX7_bare_10 rfl ?_
    refine W.ldc2 (v := (495 : Int64)) hx hb hown (hts (.constantLong RX7 227 (495 : Int64)) (by decide +kernel)) rfl dX7_bare_11 ?_
    refine W.eq (g2 := F0 m 14 ls [.long (495 : Int64), .long (lN 0), .long ((x2).toInt64)]) rfl ?_
    obtain ⟨r14, hc14, hf⟩ := bd_e hf
    refine cl_z_ro (Wd := (wX7 G ad f)) (Wc := ([] : va_W)) [] rfl (va_runS (As := [.long ((x2).toInt64), .long (lN 0), .long (495 : Int64)]) (rest := []) hC (c_X7_in l G ((x2).toInt64) (lN 0) (495 : Int64) r14 hc14 _) (va_cwS 3 hts gX7_bare_X7_in rfl rfl rfl (by decide +kernel) ⟨Nat.le_of_ble_eq_true rfl, Nat.le_of_ble_eq_true rfl⟩) ⟨Pc0_blind, fun U hU hW => Pc0_at (Wd := ([] : va_W)) hE (hP.subm [] rfl) (hD.sub [] (by decide) rfl) hU hW⟩ rfl rfl hl.1 rfl (lv_room (Nat.le_of_ble_eq_true rfl)) dX7_bare_14 ⟨Nat.zero_le _, Nat.zero_le _⟩) hS hA hP hD (fun H locs hn14 hP hD hS => ?_)
    refine lv_if_ne (tgt := 22) hx hb dX7_bare_17 (by decide) (fun hc => ?_) (fun hc => ?_)
    · have hf := if_f hf hc
      refine lv_aload_n hx hb dX7_bare_22 rfl (lv_at hl 0 rfl) ?_
      refine lv_iconst (v := (nI 0)) hx hb dX7_bare_23 (ic_0) ?_
      refine lv_sipush (v := (nI 240)) hx hb dX7_bare_24 (si_240) ?_
      obtain ⟨f_27, hc27, hf⟩ := bd_e hf
      refine cl_v_same (Wd := (wX7 G ad f)) (W' := (wX7 G ad f_27)) (va_runV (As := [.int (nI 0), .int (nI 240)]) (rest := []) hC (c_X7_copies l G ad f (nI 0) (nI 240) f_27 hc27 _) (cwV 2 hts gX7_bare_X7_copies rfl rfl rfl (by decide +kernel) ⟨Nat.le_of_ble_eq_true rfl, Nat.le_of_ble_eq_true rfl⟩) ⟨Pc0_blind, va_recv hT hP (q0 := 0) (ci := 7) rfl rfl, fun U hU hW => Pc0_at hE hP hD hU hW⟩ rfl rfl hl.1 rfl (lv_room (Nat.le_of_ble_eq_true rfl)) dX7_bare_27 ⟨Nat.zero_le _, Nat.zero_le _⟩) hS hA hD (fun H locs hP hD hS => ?_)
      refine lv_iconst (v := (nI 0)) hx hb dX7_bare_30 (ic_0) ?_
      refine lv_istore_n (lv' := [(3, .int (nI 0)), (0, .ref (ad 0)), (1, .int x1), (2, .int x2)]) hx hb dX7_bare_31 rfl hl (by decide) rfl (fun ls hl => ?_)
      obtain ⟨ze, hlp, hf⟩ := bd_e hf
      refine lp_W2 (p_X7_bare_L32 x1 x2) (fun z => match z with | (x3, f_) => ∀ (H : Heap) (locs : List Loc) (ls : Array Slot), va_P G.1 vwCl (wX7 G ad f_) H → va_D A (wX7 G ad f_) → va_S A s.heap H locs → lv_has ls 4 [(0, .ref (ad 0)), (1, .int x1), (2, .int x2), (3, .int x3)] → W p l e ({ frames := 5, cells := 0, slots := 0, locals := 108 }) s m args below meth c H locs 0 0 Q (F0 m 32 ls [])) (fun (f_32 : Mem) => ∀ (H : Heap) (locs : List Loc) (ls : Array Slot), va_P G.1 vwCl (wX7 G ad f_32) H → va_D A (wX7 G ad f_32) → va_S A s.heap H locs → lv_has ls 4 [] → W p l e ({ frames := 5, cells := 0, slots := 0, locals := 108 }) s m args below meth c H locs 0 0 Q (F0 m 67 ls [])) (fun z => z = (r, fz)) ?_ hlp ?_ _ _ _ hP hD hS (lv_sub hl [1, 2, 3, 0] rfl)
      · clear hlp hf hK hP hD hS hl
        intro K32 hW32 hX32 hO32
        rintro ⟨x3, f_⟩ res hf hK H locs ls hP hD hS hl
        unfold p_X7_bare_L32 at hf
        dsimp only at hf
        refine lv_iload_n hx hb dX7_bare_32 rfl (lv_at hl 3 rfl) ?_
        refine lv_bipush (v := (nI 60)) hx hb dX7_bare_33 (bi_60) ?_
        refine lv_icmp_gt (tgt := 67) hx hb dX7_bare_35 (by decide) (fun hc => ?_) (fun hc => ?_)
        · have hf := if_t hf hc
          have hK9 := K_of hf hK
          have hK9 := hX32 _ hK9
          exact hK9 _ _ _ hP hD hS (lv_sub hl [] rfl)
        · have hf := if_f hf hc
          refine lv_aload_n hx hb dX7_bare_38 rfl (lv_at hl 0 rfl) ?_
          refine lv_sipush (v := (nI 240)) hx hb dX7_bare_39 (si_240) ?_
          refine lv_iload_n hx hb dX7_bare_42 rfl (lv_at hl 1 rfl) ?_
          obtain ⟨r43, hc43, hf⟩ := bd_e hf
          refine cl_i_same (Wd := (wX7 G ad f_)) (W' := (wX7 G ad f_)) (va_runV (As := [.int (nI 240), .int x1]) (rest := []) hC (c_X7_feathersOn l G ad f_ (nI 240) x1 r43 hc43 _) (cwV 2 hts gX7_bare_X7_feathersOn rfl rfl rfl (by decide +kernel) ⟨Nat.le_of_ble_eq_true rfl, Nat.le_of_ble_eq_true rfl⟩) ⟨Pc0_blind, va_recv hT hP (q0 := 0) (ci := 7) rfl rfl, fun U hU hW => Pc0_at hE hP hD hU hW⟩ rfl rfl hl.1 rfl (lv_room (Nat.le_of_ble_eq_true rfl)) dX7_bare_43 ⟨Nat.zero_le _, Nat.zero_le _⟩) hS hA hD (fun H locs hP hD hS => ?_)
          refine lv_iload_n hx hb dX7_bare_46 rfl (lv_at hl 2 rfl) ?_
          refine lv_icmp_gt (tgt := 52) hx hb dX7_bare_47 (by decide) (fun hc => ?_) (fun hc => ?_)
          · have hf := if_t hf hc
            refine lv_aload_n hx hb dX7_bare_52 rfl (lv_at hl 0 rfl) ?_
            refine lv_sipush (v := (nI 240)) hx hb dX7_bare_53 (si_240) ?_
            refine lv_iconst (v := (nI 1)) hx hb dX7_bare_56 (ic_1) ?_
            obtain ⟨⟨r57, f_57⟩, hc57, hf⟩ := bd_e hf
            try dsimp only at hf
            refine cl_i_same (Wd := (wX7 G ad f_)) (W' := (wX7 G ad f_57)) (va_runV (As := [.int (nI 240), .int (nI 1)]) (rest := []) hC (c_X7_weekOn l G ad f_ (nI 240) (nI 1) r57 f_57 hc57 _) (cwV 2 hts gX7_bare_X7_weekOn rfl rfl rfl (by decide +kernel) ⟨Nat.le_of_ble_eq_true rfl, Nat.le_of_ble_eq_true rfl⟩) ⟨Pc0_blind, va_recv hT hP (q0 := 0) (ci := 7) rfl rfl, fun U hU hW => Pc0_at hE hP hD hU hW⟩ rfl rfl hl.1 rfl (lv_room (Nat.le_of_ble_eq_true rfl)) dX7_bare_57 ⟨Nat.zero_le _, Nat.zero_le _⟩) hS hA hD (fun H locs hP hD hS => ?_)
            refine lv_pop hx hb dX7_bare_60 rfl ?_
            refine lv_iinc (v := (x3 + nI 1)) (lv' := [(3, .int (x3 + nI 1)), (0, .ref (ad 0)), (1, .int x1), (2, .int x2)]) hx hb dX7_bare_61 hl (k := 3) rfl (ii_x 1 _) (by decide) rfl (fun ls hl => ?_)
            refine lv_goto (tgt := 32) hx hb dX7_bare_64 (by decide) ?_
            have hK9 := K_of hf hK
            have hK9 := hW32 _ hK9
            exact hK9 _ _ _ hP hD hS (lv_sub hl [1, 2, 3, 0] rfl)
          · have hf := if_f hf hc
            refine lv_iload_n hx hb dX7_bare_50 rfl (lv_at hl 3 rfl) ?_
            have hK9 := K_of hf hK
            have hK9 := hO32 _ hK9
            exact hRet x3 f_ _ _ _ _ hK9 dX7_bare_51 hP hD hS
      · rcases ze with f_32 | zo
        · try simp only [Sum.elim_inl] at hf
          try dsimp only at hf
          show ∀ (H : Heap) (locs : List Loc) (ls : Array Slot), va_P G.1 vwCl (wX7 G ad f_32) H → va_D A (wX7 G ad f_32) → va_S A s.heap H locs → lv_has ls 4 [] → W p l e ({ frames := 5, cells := 0, slots := 0, locals := 108 }) s m args below meth c H locs 0 0 Q (F0 m 67 ls [])
          intro H locs ls hP hD hS hl
          refine lv_bipush (v := (-4 : Int32)) hx hb dX7_bare_67 (bi_m4) ?_
          have hK9 := K0_of hf hK
          exact hRet (-4 : Int32) f_32 _ _ _ _ hK9 dX7_bare_69 hP hD hS
        · have hK9 := K0_of (show some zo = some _ from hf) hK
          exact hK9
    · have hf := if_t hf hc
      refine lv_iconst (v := (-1 : Int32)) hx hb dX7_bare_20 (ic_m1) ?_
      have hK9 := K0_of hf hK
      exact hRet (-1 : Int32) f _ _ _ _ hK9 dX7_bare_21 hP hD hS
noncomputable def p_X7_rich_L34 (f : Mem) (x2 : Int32) (z : Int32 × Int32) : Option ((Int32 × Int32) ⊕ Int32) :=
  match z with
  | (x3, x4) =>
    if (nI 5) ≤ x4 then
      (some (Sum.inr x3))
    else
      (Option.bind (p_X7_worthOn f (nI 240) x4) <| fun r46 =>
       Option.bind (p_X7_worthOn f (nI 240) x3) <| fun r54 =>
       if r46 ≤ r54 then
         (some (Sum.inl (x3, (x4 + nI 1))))
       else
         (some (Sum.inl (x4, (x4 + nI 1)))))
noncomputable def p_X7_rich (f : Mem) (x1 : Int32) (x2 : Int32) : Option (Int32 × Mem) :=
  Option.bind (p_X7_in ((x1).toInt64) (lN 0) (60 : Int64)) <| fun r6 =>
  if r6 = 0 then
    (some ((-1 : Int32), f))
  else
    (Option.bind (p_X7_in ((x2).toInt64) (lN 0) (lN 1)) <| fun r16 =>
     if r16 = 0 then
       (some ((-1 : Int32), f))
     else
       (Option.bind (p_X7_weeksGo f x1) <| fun f_26 =>
        Option.bind (lp (p_X7_rich_L34 f_26 x2) ((nI 0), (nI 1))) <| fun y3_34 =>
        if x2 = 0 then
          (some (y3_34, f_26))
        else
          (Option.bind (p_X7_worthOn f_26 (nI 240) y3_34) <| fun r86 =>
           some (r86, f_26))))
set_option maxHeartbeats 4000000 in
set_option maxRecDepth 100000 in
theorem c_X7_rich (l : Launch) (G : Gt) (ad : Nat → Nat) (f : Mem) (x1 : Int32) (x2 : Int32) (r : Int32) (fz : Mem) (hf : p_X7_rich f x1 x2 = some (r, fz)) (sz : Nat) : Met l yX7_rich wsX7_rich ({ frames := 6, cells := 0, slots := 0, locals := 130 }) (Pc0 G sz [.ref (ad 0), .int x1, .int x2] (wX7 G ad f)) (Qi0 G (va_A (wX7 G ad f) sz) r (wX7 G ad fz)) 0 0 (va_A (wX7 G ad f) sz) := by
  refine metP (Qf := fun A => Qi0 G A r (wX7 G ad fz)) cX7_rich 5 (some .int) (by decide) rfl (Nat.le_of_ble_eq_true rfl) ?_
  intro p e s m below meth c A ls hC hr hlocks hin hE hA hsz hP hD hS hl
  generalize hargs : ([.ref (ad 0), .int x1, .int x2] : List Value).toArray = args at hC ⊢
  obtain ⟨hx, hb, hml, hown, hts⟩ := id hC
  have hT : va_K G.1 vwCl (tyL G) s := hE.1
  have hRet : ∀ (r9 : Int32) (f9 : Mem) (H : Heap) (locs : List Loc) (ls : Array Slot) (pc : Nat) (hK9 : (r9, f9) = (r, fz)) (hdg : decode cX7_rich pc = .ok (.ireturn, 1)), va_P G.1 vwCl (wX7 G ad f9) H → va_D A (wX7 G ad f9) → va_S A s.heap H locs → W p l e ({ frames := 6, cells := 0, slots := 0, locals := 130 }) s m args below meth c H locs 0 0 (MQ below (Qi0 G A r (wX7 G ad fz)) args s 0 0 A) (F0 m pc ls [.int r9]) := by
    intro r9 f9 H locs ls pc hK9 hdg hP hD hS
    cases hK9
    exact W.iret hx hb hr (fun t ht hW => ⟨⟨r, (), rfl, rfl, by rw [ht]; exact hP, hD⟩, hS.F ht⟩) hS.2.2 hdg hlocks
  generalize MQ below (Qi0 G A r (wX7 G ad fz)) args s 0 0 A = Q at hRet ⊢
  have hl : lv_has ls 5 [(0, .ref (ad 0)), (1, .int x1), (2, .int x2)] := hl
  have hK0 : (r, fz) = (r, fz) := rfl
  obtain ⟨res, hres, hK⟩ : ∃ res, p_X7_rich f x1 x2 = some res ∧ res = (r, fz) := ⟨_, hf, rfl⟩
  clear hf
  have hf := hres
  clear hres
  unfold p_X7_rich at hf
  refine lv_iload_n hx hb dX7_rich_0 rfl (lv_at hl 1 rfl) ?_
  refine lv_i2l (v := ((x1).toInt64)) hx hb dX7_rich_1 rfl ?_
  refine lv_lconst (v := (lN 0)) hx hb dX7_rich_2 rfl ?_
  refine W.ldc2 (v := (60 : Int64)) hx hb hown (hts (.constantLong RX7 222 (60 : Int64)) (by decide +kernel)) rfl dX7_rich_3 ?_
  refine W.eq (g2 := F0 m 6 ls [.long (60 : Int64), .long (lN 0), .long ((x1).toInt64)]) rfl ?_
  obtain ⟨r6, hc6, hf⟩ := bd_e hf
  refine cl_z_ro (Wd := (wX7 G ad f)) (Wc := ([] : va_W)) [] rfl (va_runS (As := [.long ((x1).toInt64), .long (lN 0), .long (60 : Int64)]) (rest := []) hC (c_X7_in l G ((x1).toInt64) (lN 0) (60 : Int64) r6 hc6 _) (va_cwS 3 hts gX7_rich_X7_in rfl rfl rfl (by decide +kernel) ⟨Nat.le_of_ble_eq_true rfl, Nat.le_of_ble_eq_true rfl⟩) ⟨Pc0_blind, fun U hU hW => Pc0_at (Wd := ([] : va_W)) hE (hP.subm [] rfl) (hD.sub [] (by decide) rfl) hU hW⟩ rfl rfl hl.1 rfl (lv_room (Nat.le_of_ble_eq_true rfl)) dX7_rich_6 ⟨Nat.zero_le _, Nat.zero_le _⟩) hS hA hP hD (fun H locs hn6 hP hD hS => ?_)
  refine lv_if_eq (tgt := 22) hx hb dX7_rich_9 (by decide) (fun hc => ?_) (fun hc => ?_)
  · have hf := if_t hf hc
    refine lv_iconst (v := (-1 : Int32)) hx hb dX7_rich_22 (ic_m1) ?_
    have hK9 := K0_of hf hK
    exact hRet (-1 : Int32) f _ _ _ _ hK9 dX7_rich_23 hP hD hS
  · have hf := if_f hf hc
    refine lv_iload_n hx hb dX7_rich_12 rfl (lv_at hl 2 rfl) ?_
    refine lv_i2l (v := ((x2).toInt64)) hx hb dX7_rich_13 rfl ?_
    refine lv_lconst (v := (lN 0)) hx hb dX7_rich_14 rfl ?_
    refine lv_lconst (v := (lN 1)) hx hb dX7_rich_15 rfl ?_
    obtain ⟨r16, hc16, hf⟩ := bd_e hf
    refine cl_z_ro (Wd := (wX7 G ad f)) (Wc := ([] : va_W)) [] rfl (va_runS (As := [.long ((x2).toInt64), .long (lN 0), .long (lN 1)]) (rest := []) hC (c_X7_in l G ((x2).toInt64) (lN 0) (lN 1) r16 hc16 _) (va_cwS 3 hts gX7_rich_X7_in rfl rfl rfl (by decide +kernel) ⟨Nat.le_of_ble_eq_true rfl, Nat.le_of_ble_eq_true rfl⟩) ⟨Pc0_blind, fun U hU hW => Pc0_at (Wd := ([] : va_W)) hE (hP.subm [] rfl) (hD.sub [] (by decide) rfl) hU hW⟩ rfl rfl hl.1 rfl (lv_room (Nat.le_of_ble_eq_true rfl)) dX7_rich_16 ⟨Nat.zero_le _, Nat.zero_le _⟩) hS hA hP hD (fun H locs hn16 hP hD hS => ?_)
    refine lv_if_ne (tgt := 24) hx hb dX7_rich_19 (by decide) (fun hc => ?_) (fun hc => ?_)
    · have hf := if_f hf hc
      refine lv_aload_n hx hb dX7_rich_24 rfl (lv_at hl 0 rfl) ?_
      refine lv_iload_n hx hb dX7_rich_25 rfl (lv_at hl 1 rfl) ?_
      obtain ⟨f_26, hc26, hf⟩ := bd_e hf
      refine cl_v_same (Wd := (wX7 G ad f)) (W' := (wX7 G ad f_26)) (va_runV (As := [.int x1]) (rest := []) hC (c_X7_weeksGo l G ad f x1 f_26 hc26 _) (cwV 1 hts gX7_rich_X7_weeksGo rfl rfl rfl (by decide +kernel) ⟨Nat.le_of_ble_eq_true rfl, Nat.le_of_ble_eq_true rfl⟩) ⟨Pc0_blind, va_recv hT hP (q0 := 0) (ci := 7) rfl rfl, fun U hU hW => Pc0_at hE hP hD hU hW⟩ rfl rfl hl.1 rfl (lv_room (Nat.le_of_ble_eq_true rfl)) dX7_rich_26 ⟨Nat.zero_le _, Nat.zero_le _⟩) hS hA hD (fun H locs hP hD hS => ?_)
      refine lv_iconst (v := (nI 0)) hx hb dX7_rich_29 (ic_0) ?_
      refine lv_istore_n (lv' := [(3, .int (nI 0)), (0, .ref (ad 0)), (1, .int x1), (2, .int x2)]) hx hb dX7_rich_30 rfl hl (by decide) rfl (fun ls hl => ?_)
      refine lv_iconst (v := (nI 1)) hx hb dX7_rich_31 (ic_1) ?_
      refine lv_istore (lv' := [(4, .int (nI 1)), (3, .int (nI 0)), (0, .ref (ad 0)), (1, .int x1), (2, .int x2)]) hx hb dX7_rich_32 hl (by decide) rfl (fun ls hl => ?_)
      obtain ⟨y3_34, hlp, hf⟩ := bd_e hf
      refine lp_W1 (p_X7_rich_L34 f_26 x2) (fun z => match z with | (x3, x4) => ∀ (H : Heap) (locs : List Loc) (ls : Array Slot), va_P G.1 vwCl (wX7 G ad f_26) H → va_D A (wX7 G ad f_26) → va_S A s.heap H locs → lv_has ls 5 [(0, .ref (ad 0)), (2, .int x2), (3, .int x3), (4, .int x4)] → W p l e ({ frames := 6, cells := 0, slots := 0, locals := 130 }) s m args below meth c H locs 0 0 Q (F0 m 34 ls [])) (fun (y3_34 : Int32) => ∀ (H : Heap) (locs : List Loc) (ls : Array Slot), va_P G.1 vwCl (wX7 G ad f_26) H → va_D A (wX7 G ad f_26) → va_S A s.heap H locs → lv_has ls 5 [(0, .ref (ad 0)), (2, .int x2), (3, .int y3_34)] → W p l e ({ frames := 6, cells := 0, slots := 0, locals := 130 }) s m args below meth c H locs 0 0 Q (F0 m 73 ls [])) ?_ hlp ?_ _ _ _ hP hD hS (lv_sub hl [2, 4, 1, 0] rfl)
      · clear hlp hf hK hP hD hS hl
        generalize f_26 = f
        intro K34 hW34 hX34 
        rintro ⟨x3, x4⟩ res hf hK H locs ls hP hD hS hl
        unfold p_X7_rich_L34 at hf
        dsimp only at hf
        refine lv_iload hx hb dX7_rich_34 (lv_at hl 3 rfl) ?_
        refine lv_iconst (v := (nI 5)) hx hb dX7_rich_36 (ic_5) ?_
        refine lv_icmp_ge (tgt := 73) hx hb dX7_rich_37 (by decide) (fun hc => ?_) (fun hc => ?_)
        · have hf := if_t hf hc
          have hK9 := K_of hf hK
          have hK9 := hX34 _ hK9
          exact hK9 _ _ _ hP hD hS (lv_sub hl [0, 1, 2] rfl)
        · have hf := if_f hf hc
          refine lv_aload_n hx hb dX7_rich_40 rfl (lv_at hl 0 rfl) ?_
          refine lv_sipush (v := (nI 240)) hx hb dX7_rich_41 (si_240) ?_
          refine lv_iload hx hb dX7_rich_44 (lv_at hl 3 rfl) ?_
          obtain ⟨r46, hc46, hf⟩ := bd_e hf
          refine cl_i_same (Wd := (wX7 G ad f)) (W' := (wX7 G ad f)) (va_runV (As := [.int (nI 240), .int x4]) (rest := []) hC (c_X7_worthOn l G ad f (nI 240) x4 r46 hc46 _) (cwV 2 hts gX7_rich_X7_worthOn rfl rfl rfl (by decide +kernel) ⟨Nat.le_of_ble_eq_true rfl, Nat.le_of_ble_eq_true rfl⟩) ⟨Pc0_blind, va_recv hT hP (q0 := 0) (ci := 7) rfl rfl, fun U hU hW => Pc0_at hE hP hD hU hW⟩ rfl rfl hl.1 rfl (lv_room (Nat.le_of_ble_eq_true rfl)) dX7_rich_46 ⟨Nat.zero_le _, Nat.zero_le _⟩) hS hA hD (fun H locs hP hD hS => ?_)
          refine lv_aload_n hx hb dX7_rich_49 rfl (lv_at hl 0 rfl) ?_
          refine lv_sipush (v := (nI 240)) hx hb dX7_rich_50 (si_240) ?_
          refine lv_iload_n hx hb dX7_rich_53 rfl (lv_at hl 2 rfl) ?_
          obtain ⟨r54, hc54, hf⟩ := bd_e hf
          refine cl_i_same (Wd := (wX7 G ad f)) (W' := (wX7 G ad f)) (va_runV (As := [.int (nI 240), .int x3]) (rest := [.int r46]) hC (c_X7_worthOn l G ad f (nI 240) x3 r54 hc54 _) (cwV 2 hts gX7_rich_X7_worthOn rfl rfl rfl (by decide +kernel) ⟨Nat.le_of_ble_eq_true rfl, Nat.le_of_ble_eq_true rfl⟩) ⟨Pc0_blind, va_recv hT hP (q0 := 0) (ci := 7) rfl rfl, fun U hU hW => Pc0_at hE hP hD hU hW⟩ rfl rfl hl.1 rfl (lv_room (Nat.le_of_ble_eq_true rfl)) dX7_rich_54 ⟨Nat.zero_le _, Nat.zero_le _⟩) hS hA hD (fun H locs hP hD hS => ?_)
          refine lv_icmp_le (tgt := 65) hx hb dX7_rich_57 (by decide) (fun hc => ?_) (fun hc => ?_)
          · have hf := if_t hf hc
            refine lv_iload_n hx hb dX7_rich_65 rfl (lv_at hl 2 rfl) ?_
            refine lv_istore_n (lv' := [(3, .int x3), (0, .ref (ad 0)), (2, .int x2), (4, .int x4)]) hx hb dX7_rich_66 rfl hl (by decide) rfl (fun ls hl => ?_)
            refine lv_iinc (v := (x4 + nI 1)) (lv' := [(4, .int (x4 + nI 1)), (3, .int x3), (0, .ref (ad 0)), (2, .int x2)]) hx hb dX7_rich_67 hl (k := 3) rfl (ii_x 1 _) (by decide) rfl (fun ls hl => ?_)
            refine lv_goto (tgt := 34) hx hb dX7_rich_70 (by decide) ?_
            have hK9 := K_of hf hK
            have hK9 := hW34 _ hK9
            exact hK9 _ _ _ hP hD hS (lv_sub hl [2, 3, 1, 0] rfl)
          · have hf := if_f hf hc
            refine lv_iload hx hb dX7_rich_60 (lv_at hl 3 rfl) ?_
            refine lv_goto (tgt := 66) hx hb dX7_rich_62 (by decide) ?_
            refine lv_istore_n (lv' := [(3, .int x4), (0, .ref (ad 0)), (2, .int x2), (4, .int x4)]) hx hb dX7_rich_66 rfl hl (by decide) rfl (fun ls hl => ?_)
            refine lv_iinc (v := (x4 + nI 1)) (lv' := [(4, .int (x4 + nI 1)), (3, .int x4), (0, .ref (ad 0)), (2, .int x2)]) hx hb dX7_rich_67 hl (k := 3) rfl (ii_x 1 _) (by decide) rfl (fun ls hl => ?_)
            refine lv_goto (tgt := 34) hx hb dX7_rich_70 (by decide) ?_
            have hK9 := K_of hf hK
            have hK9 := hW34 _ hK9
            exact hK9 _ _ _ hP hD hS (lv_sub hl [2, 3, 1, 0] rfl)
      · try dsimp only at hf
        show ∀ (H : Heap) (locs : List Loc) (ls : Array Slot), va_P G.1 vwCl (wX7 G ad f_26) H → va_D A (wX7 G ad f_26) → va_S A s.heap H locs → lv_has ls 5 [(0, .ref (ad 0)), (2, .int x2), (3, .int y3_34)] → W p l e ({ frames := 6, cells := 0, slots := 0, locals := 130 }) s m args below meth c H locs 0 0 Q (F0 m 73 ls [])
        intro H locs ls hP hD hS hl
        refine lv_iload_n hx hb dX7_rich_73 rfl (lv_at hl 1 rfl) ?_
        refine lv_if_ne (tgt := 81) hx hb dX7_rich_74 (by decide) (fun hc => ?_) (fun hc => ?_)
        · have hf := if_f hf hc
          refine lv_aload_n hx hb dX7_rich_81 rfl (lv_at hl 0 rfl) ?_
          refine lv_sipush (v := (nI 240)) hx hb dX7_rich_82 (si_240) ?_
          refine lv_iload_n hx hb dX7_rich_85 rfl (lv_at hl 2 rfl) ?_
          obtain ⟨r86, hc86, hf⟩ := bd_e hf
          refine cl_i_same (Wd := (wX7 G ad f_26)) (W' := (wX7 G ad f_26)) (va_runV (As := [.int (nI 240), .int y3_34]) (rest := []) hC (c_X7_worthOn l G ad f_26 (nI 240) y3_34 r86 hc86 _) (cwV 2 hts gX7_rich_X7_worthOn rfl rfl rfl (by decide +kernel) ⟨Nat.le_of_ble_eq_true rfl, Nat.le_of_ble_eq_true rfl⟩) ⟨Pc0_blind, va_recv hT hP (q0 := 0) (ci := 7) rfl rfl, fun U hU hW => Pc0_at hE hP hD hU hW⟩ rfl rfl hl.1 rfl (lv_room (Nat.le_of_ble_eq_true rfl)) dX7_rich_86 ⟨Nat.zero_le _, Nat.zero_le _⟩) hS hA hD (fun H locs hP hD hS => ?_)
          have hK9 := K0_of hf hK
          exact hRet r86 f_26 _ _ _ _ hK9 dX7_rich_89 hP hD hS
        · have hf := if_t hf hc
          refine lv_iload_n hx hb dX7_rich_77 rfl (lv_at hl 2 rfl) ?_
          refine lv_goto (tgt := 89) hx hb dX7_rich_78 (by decide) ?_
          have hK9 := K0_of hf hK
          exact hRet y3_34 f_26 _ _ _ _ hK9 dX7_rich_89 hP hD hS
    · have hf := if_t hf hc
      refine lv_iconst (v := (-1 : Int32)) hx hb dX7_rich_22 (ic_m1) ?_
      have hK9 := K0_of hf hK
      exact hRet (-1 : Int32) f _ _ _ _ hK9 dX7_rich_23 hP hD hS
noncomputable def p_X7_turn_L27 (x1 : Int32) (x2 : Int32) (z : Int32 × Mem) : Option ((Int32 × Mem) ⊕ (Mem ⊕ (Int32 × Mem))) :=
  match z with
  | (x3, f_) =>
    if (nI 60) < x3 then
      (some (Sum.inr (Sum.inl f_)))
    else
      (Option.bind (p_X7_weekOn f_ (nI 240) (nI 1)) <| fun (r38, f_38) =>
       Option.bind (p_X7_eggOn f_38 (nI 240) x1) <| fun r47 =>
       if r47 = x2 then
         (some (Sum.inl ((x3 + nI 1), f_38)))
       else
         (some (Sum.inr (Sum.inr (x3, f_38)))))
noncomputable def p_X7_turn (f : Mem) (x1 : Int32) : Option (Int32 × Mem) :=
  Option.bind (p_X7_isGoose f x1) <| fun r2 =>
  if r2 = 0 then
    (some ((-1 : Int32), f))
  else
    (Option.bind (p_X7_eggOn f (nI 0) x1) <| fun r13 =>
     Option.bind (p_X7_copies f (nI 0) (nI 240)) <| fun f_22 =>
     Option.bind (lp (p_X7_turn_L27 x1 r13) ((nI 1), f_22)) <| Sum.elim (fun f_27 =>
       some ((-4 : Int32), f_27)) some)
set_option maxHeartbeats 4000000 in
set_option maxRecDepth 100000 in
theorem c_X7_turn (l : Launch) (G : Gt) (ad : Nat → Nat) (f : Mem) (x1 : Int32) (r : Int32) (fz : Mem) (hf : p_X7_turn f x1 = some (r, fz)) (sz : Nat) : Met l yX7_turn wsX7_turn ({ frames := 5, cells := 0, slots := 0, locals := 108 }) (Pc0 G sz [.ref (ad 0), .int x1] (wX7 G ad f)) (Qi0 G (va_A (wX7 G ad f) sz) r (wX7 G ad fz)) 0 0 (va_A (wX7 G ad f) sz) := by
  refine metP (Qf := fun A => Qi0 G A r (wX7 G ad fz)) cX7_turn 4 (some .int) (by decide) rfl (Nat.le_of_ble_eq_true rfl) ?_
  intro p e s m below meth c A ls hC hr hlocks hin hE hA hsz hP hD hS hl
  generalize hargs : ([.ref (ad 0), .int x1] : List Value).toArray = args at hC ⊢
  obtain ⟨hx, hb, hml, hown, hts⟩ := id hC
  have hT : va_K G.1 vwCl (tyL G) s := hE.1
  have hRet : ∀ (r9 : Int32) (f9 : Mem) (H : Heap) (locs : List Loc) (ls : Array Slot) (pc : Nat) (hK9 : (r9, f9) = (r, fz)) (hdg : decode cX7_turn pc = .ok (.ireturn, 1)), va_P G.1 vwCl (wX7 G ad f9) H → va_D A (wX7 G ad f9) → va_S A s.heap H locs → W p l e ({ frames := 5, cells := 0, slots := 0, locals := 108 }) s m args below meth c H locs 0 0 (MQ below (Qi0 G A r (wX7 G ad fz)) args s 0 0 A) (F0 m pc ls [.int r9]) := by
    intro r9 f9 H locs ls pc hK9 hdg hP hD hS
    cases hK9
    exact W.iret hx hb hr (fun t ht hW => ⟨⟨r, (), rfl, rfl, by rw [ht]; exact hP, hD⟩, hS.F ht⟩) hS.2.2 hdg hlocks
  generalize MQ below (Qi0 G A r (wX7 G ad fz)) args s 0 0 A = Q at hRet ⊢
  have hl : lv_has ls 4 [(0, .ref (ad 0)), (1, .int x1)] := hl
  have hK0 : (r, fz) = (r, fz) := rfl
  obtain ⟨res, hres, hK⟩ : ∃ res, p_X7_turn f x1 = some res ∧ res = (r, fz) := ⟨_, hf, rfl⟩
  clear hf
  have hf := hres
  clear hres
  unfold p_X7_turn at hf
  refine lv_aload_n hx hb dX7_turn_0 rfl (lv_at hl 0 rfl) ?_
  refine lv_iload_n hx hb dX7_turn_1 rfl (lv_at hl 1 rfl) ?_
  obtain ⟨r2, hc2, hf⟩ := bd_e hf
  refine cl_z_same (Wd := (wX7 G ad f)) (W' := (wX7 G ad f)) (va_runV (As := [.int x1]) (rest := []) hC (c_X7_isGoose l G ad f x1 r2 hc2 _) (cwV 1 hts gX7_turn_X7_isGoose rfl rfl rfl (by decide +kernel) ⟨Nat.le_of_ble_eq_true rfl, Nat.le_of_ble_eq_true rfl⟩) ⟨Pc0_blind, va_recv hT hP (q0 := 0) (ci := 7) rfl rfl, fun U hU hW => Pc0_at hE hP hD hU hW⟩ rfl rfl hl.1 rfl (lv_room (Nat.le_of_ble_eq_true rfl)) dX7_turn_2 ⟨Nat.zero_le _, Nat.zero_le _⟩) hS hA hD (fun H locs hn2 hP hD hS => ?_)
  refine lv_if_ne (tgt := 10) hx hb dX7_turn_5 (by decide) (fun hc => ?_) (fun hc => ?_)
  · have hf := if_f hf hc
    refine lv_aload_n hx hb dX7_turn_10 rfl (lv_at hl 0 rfl) ?_
    refine lv_iconst (v := (nI 0)) hx hb dX7_turn_11 (ic_0) ?_
    refine lv_iload_n hx hb dX7_turn_12 rfl (lv_at hl 1 rfl) ?_
    obtain ⟨r13, hc13, hf⟩ := bd_e hf
    refine cl_i_same (Wd := (wX7 G ad f)) (W' := (wX7 G ad f)) (va_runV (As := [.int (nI 0), .int x1]) (rest := []) hC (c_X7_eggOn l G ad f (nI 0) x1 r13 hc13 _) (cwV 2 hts gX7_turn_X7_eggOn rfl rfl rfl (by decide +kernel) ⟨Nat.le_of_ble_eq_true rfl, Nat.le_of_ble_eq_true rfl⟩) ⟨Pc0_blind, va_recv hT hP (q0 := 0) (ci := 7) rfl rfl, fun U hU hW => Pc0_at hE hP hD hU hW⟩ rfl rfl hl.1 rfl (lv_room (Nat.le_of_ble_eq_true rfl)) dX7_turn_13 ⟨Nat.zero_le _, Nat.zero_le _⟩) hS hA hD (fun H locs hP hD hS => ?_)
    refine lv_istore_n (lv' := [(2, .int r13), (0, .ref (ad 0)), (1, .int x1)]) hx hb dX7_turn_16 rfl hl (by decide) rfl (fun ls hl => ?_)
    refine lv_aload_n hx hb dX7_turn_17 rfl (lv_at hl 1 rfl) ?_
    refine lv_iconst (v := (nI 0)) hx hb dX7_turn_18 (ic_0) ?_
    refine lv_sipush (v := (nI 240)) hx hb dX7_turn_19 (si_240) ?_
    obtain ⟨f_22, hc22, hf⟩ := bd_e hf
    refine cl_v_same (Wd := (wX7 G ad f)) (W' := (wX7 G ad f_22)) (va_runV (As := [.int (nI 0), .int (nI 240)]) (rest := []) hC (c_X7_copies l G ad f (nI 0) (nI 240) f_22 hc22 _) (cwV 2 hts gX7_turn_X7_copies rfl rfl rfl (by decide +kernel) ⟨Nat.le_of_ble_eq_true rfl, Nat.le_of_ble_eq_true rfl⟩) ⟨Pc0_blind, va_recv hT hP (q0 := 0) (ci := 7) rfl rfl, fun U hU hW => Pc0_at hE hP hD hU hW⟩ rfl rfl hl.1 rfl (lv_room (Nat.le_of_ble_eq_true rfl)) dX7_turn_22 ⟨Nat.zero_le _, Nat.zero_le _⟩) hS hA hD (fun H locs hP hD hS => ?_)
    refine lv_iconst (v := (nI 1)) hx hb dX7_turn_25 (ic_1) ?_
    refine lv_istore_n (lv' := [(3, .int (nI 1)), (2, .int r13), (0, .ref (ad 0)), (1, .int x1)]) hx hb dX7_turn_26 rfl hl (by decide) rfl (fun ls hl => ?_)
    obtain ⟨ze, hlp, hf⟩ := bd_e hf
    refine lp_W2 (p_X7_turn_L27 x1 r13) (fun z => match z with | (x3, f_) => ∀ (H : Heap) (locs : List Loc) (ls : Array Slot), va_P G.1 vwCl (wX7 G ad f_) H → va_D A (wX7 G ad f_) → va_S A s.heap H locs → lv_has ls 4 [(0, .ref (ad 0)), (1, .int x1), (2, .int r13), (3, .int x3)] → W p l e ({ frames := 5, cells := 0, slots := 0, locals := 108 }) s m args below meth c H locs 0 0 Q (F0 m 27 ls [])) (fun (f_27 : Mem) => ∀ (H : Heap) (locs : List Loc) (ls : Array Slot), va_P G.1 vwCl (wX7 G ad f_27) H → va_D A (wX7 G ad f_27) → va_S A s.heap H locs → lv_has ls 4 [] → W p l e ({ frames := 5, cells := 0, slots := 0, locals := 108 }) s m args below meth c H locs 0 0 Q (F0 m 62 ls [])) (fun z => z = (r, fz)) ?_ hlp ?_ _ _ _ hP hD hS (lv_sub hl [2, 3, 1, 0] rfl)
    · clear hlp hf hK hP hD hS hl
      generalize r13 = x2
      intro K27 hW27 hX27 hO27
      rintro ⟨x3, f_⟩ res hf hK H locs ls hP hD hS hl
      unfold p_X7_turn_L27 at hf
      dsimp only at hf
      refine lv_iload_n hx hb dX7_turn_27 rfl (lv_at hl 3 rfl) ?_
      refine lv_bipush (v := (nI 60)) hx hb dX7_turn_28 (bi_60) ?_
      refine lv_icmp_gt (tgt := 62) hx hb dX7_turn_30 (by decide) (fun hc => ?_) (fun hc => ?_)
      · have hf := if_t hf hc
        have hK9 := K_of hf hK
        have hK9 := hX27 _ hK9
        exact hK9 _ _ _ hP hD hS (lv_sub hl [] rfl)
      · have hf := if_f hf hc
        refine lv_aload_n hx hb dX7_turn_33 rfl (lv_at hl 0 rfl) ?_
        refine lv_sipush (v := (nI 240)) hx hb dX7_turn_34 (si_240) ?_
        refine lv_iconst (v := (nI 1)) hx hb dX7_turn_37 (ic_1) ?_
        obtain ⟨⟨r38, f_38⟩, hc38, hf⟩ := bd_e hf
        try dsimp only at hf
        refine cl_i_same (Wd := (wX7 G ad f_)) (W' := (wX7 G ad f_38)) (va_runV (As := [.int (nI 240), .int (nI 1)]) (rest := []) hC (c_X7_weekOn l G ad f_ (nI 240) (nI 1) r38 f_38 hc38 _) (cwV 2 hts gX7_turn_X7_weekOn rfl rfl rfl (by decide +kernel) ⟨Nat.le_of_ble_eq_true rfl, Nat.le_of_ble_eq_true rfl⟩) ⟨Pc0_blind, va_recv hT hP (q0 := 0) (ci := 7) rfl rfl, fun U hU hW => Pc0_at hE hP hD hU hW⟩ rfl rfl hl.1 rfl (lv_room (Nat.le_of_ble_eq_true rfl)) dX7_turn_38 ⟨Nat.zero_le _, Nat.zero_le _⟩) hS hA hD (fun H locs hP hD hS => ?_)
        refine lv_pop hx hb dX7_turn_41 rfl ?_
        refine lv_aload_n hx hb dX7_turn_42 rfl (lv_at hl 0 rfl) ?_
        refine lv_sipush (v := (nI 240)) hx hb dX7_turn_43 (si_240) ?_
        refine lv_iload_n hx hb dX7_turn_46 rfl (lv_at hl 1 rfl) ?_
        obtain ⟨r47, hc47, hf⟩ := bd_e hf
        refine cl_i_same (Wd := (wX7 G ad f_38)) (W' := (wX7 G ad f_38)) (va_runV (As := [.int (nI 240), .int x1]) (rest := []) hC (c_X7_eggOn l G ad f_38 (nI 240) x1 r47 hc47 _) (cwV 2 hts gX7_turn_X7_eggOn rfl rfl rfl (by decide +kernel) ⟨Nat.le_of_ble_eq_true rfl, Nat.le_of_ble_eq_true rfl⟩) ⟨Pc0_blind, va_recv hT hP (q0 := 0) (ci := 7) rfl rfl, fun U hU hW => Pc0_at hE hP hD hU hW⟩ rfl rfl hl.1 rfl (lv_room (Nat.le_of_ble_eq_true rfl)) dX7_turn_47 ⟨Nat.zero_le _, Nat.zero_le _⟩) hS hA hD (fun H locs hP hD hS => ?_)
        refine lv_iload_n hx hb dX7_turn_50 rfl (lv_at hl 2 rfl) ?_
        refine lv_icmp_eq (tgt := 56) hx hb dX7_turn_51 (by decide) (fun hc => ?_) (fun hc => ?_)
        · have hf := if_t hf hc
          refine lv_iinc (v := (x3 + nI 1)) (lv' := [(3, .int (x3 + nI 1)), (0, .ref (ad 0)), (1, .int x1), (2, .int x2)]) hx hb dX7_turn_56 hl (k := 3) rfl (ii_x 1 _) (by decide) rfl (fun ls hl => ?_)
          refine lv_goto (tgt := 27) hx hb dX7_turn_59 (by decide) ?_
          have hK9 := K_of hf hK
          have hK9 := hW27 _ hK9
          exact hK9 _ _ _ hP hD hS (lv_sub hl [1, 2, 3, 0] rfl)
        · have hf := if_f hf hc
          refine lv_iload_n hx hb dX7_turn_54 rfl (lv_at hl 3 rfl) ?_
          have hK9 := K_of hf hK
          have hK9 := hO27 _ hK9
          exact hRet x3 f_38 _ _ _ _ hK9 dX7_turn_55 hP hD hS
    · rcases ze with f_27 | zo
      · try simp only [Sum.elim_inl] at hf
        try dsimp only at hf
        show ∀ (H : Heap) (locs : List Loc) (ls : Array Slot), va_P G.1 vwCl (wX7 G ad f_27) H → va_D A (wX7 G ad f_27) → va_S A s.heap H locs → lv_has ls 4 [] → W p l e ({ frames := 5, cells := 0, slots := 0, locals := 108 }) s m args below meth c H locs 0 0 Q (F0 m 62 ls [])
        intro H locs ls hP hD hS hl
        refine lv_bipush (v := (-4 : Int32)) hx hb dX7_turn_62 (bi_m4) ?_
        have hK9 := K0_of hf hK
        exact hRet (-4 : Int32) f_27 _ _ _ _ hK9 dX7_turn_64 hP hD hS
      · have hK9 := K0_of (show some zo = some _ from hf) hK
        exact hK9
  · have hf := if_t hf hc
    refine lv_iconst (v := (-1 : Int32)) hx hb dX7_turn_8 (ic_m1) ?_
    have hK9 := K0_of hf hK
    exact hRet (-1 : Int32) f _ _ _ _ hK9 dX7_turn_9 hP hD hS
noncomputable def p_X7_need_L53 (x1 : Int32) (x2 : Int32) (x3 : Int32) (x4 : Int32) (z : Int32 × Mem) : Option ((Int32 × Mem) ⊕ (Mem ⊕ ((Int32 × Mem) ⊕ (Mem ⊕ (Int32 × Mem))))) :=
  match z with
  | (x5, f_) =>
    if (nI 5) ≤ x5 then
      (some (Sum.inr (Sum.inl f_)))
    else
      (Option.bind (p_X7_copies f_ (nI 0) (nI 240)) <| fun f_64 =>
       if x5 = x1 then
         (some (Sum.inl ((x5 + nI 1), f_64)))
       else
         (Option.bind (p_X7_buysOn f_64 (nI 240) x1 x5 x2 x4) <| fun (r83, f_83) =>
          if r83 = 0 then
            (some (Sum.inl ((x5 + nI 1), f_83)))
          else
            (Option.bind (p_X7_eggOn f_83 (nI 240) x2) <| fun r94 =>
             if r94 = x1 then
               (if x3 = 0 then
                  (some (Sum.inr (Sum.inr (Sum.inr (Sum.inr ((((nI 10) * x5) + x4), f_83))))))
                else
                  (gd (inb ((nI 6) + x2) 360) <|
                   some (Sum.inr (Sum.inr (Sum.inr (Sum.inr ((x4 * (f_83 1 ((nI 6) + x2).toNatClampNeg)), f_83)))))))
             else
               (some (Sum.inl ((x5 + nI 1), f_83))))))
noncomputable def p_X7_need_L43 (x1 : Int32) (x2 : Int32) (x3 : Int32) (z : Int32 × Mem) : Option ((Int32 × Mem) ⊕ (Mem ⊕ (Int32 × Mem))) :=
  match z with
  | (x4, f_) =>
    if (nI 9) < x4 then
      (some (Sum.inr (Sum.inl f_)))
    else
      (Option.bind (lp (p_X7_need_L53 x1 x2 x3 x4) ((nI 0), f_)) <| Sum.elim (fun f_53 =>
         some (Sum.inl ((x4 + nI 1), f_53))) some)
noncomputable def p_X7_need (f : Mem) (x1 : Int32) (x2 : Int32) (x3 : Int32) : Option (Int32 × Mem) :=
  Option.bind (p_X7_isOwner x1) <| fun r1 =>
  if r1 = 0 then
    (some ((-1 : Int32), f))
  else
    (Option.bind (p_X7_isGoose f x2) <| fun r9 =>
     if r9 = 0 then
       (some ((-1 : Int32), f))
     else
       (Option.bind (p_X7_in ((x3).toInt64) (lN 0) (lN 1)) <| fun r19 =>
        if r19 = 0 then
          (some ((-1 : Int32), f))
        else
          (Option.bind (p_X7_eggOn f (nI 0) x2) <| fun r30 =>
           if r30 = x1 then
             (some ((-2 : Int32), f))
           else
             (Option.bind (lp (p_X7_need_L43 x1 x2 x3) ((nI 1), f)) <| Sum.elim (fun f_43 =>
                some ((-4 : Int32), f_43)) some))))
set_option maxHeartbeats 4000000 in
set_option maxRecDepth 100000 in
theorem c_X7_need (l : Launch) (G : Gt) (ad : Nat → Nat) (f : Mem) (x1 : Int32) (x2 : Int32) (x3 : Int32) (r : Int32) (fz : Mem) (hf : p_X7_need f x1 x2 x3 = some (r, fz)) (sz : Nat) : Met l yX7_need wsX7_need ({ frames := 4, cells := 0, slots := 0, locals := 88 }) (Pc0 G sz [.ref (ad 0), .int x1, .int x2, .int x3] (wX7 G ad f)) (Qi0 G (va_A (wX7 G ad f) sz) r (wX7 G ad fz)) 0 0 (va_A (wX7 G ad f) sz) := by
  refine metP (Qf := fun A => Qi0 G A r (wX7 G ad fz)) cX7_need 6 (some .int) (by decide) rfl (Nat.le_of_ble_eq_true rfl) ?_
  intro p e s m below meth c A ls hC hr hlocks hin hE hA hsz hP hD hS hl
  generalize hargs : ([.ref (ad 0), .int x1, .int x2, .int x3] : List Value).toArray = args at hC ⊢
  obtain ⟨hx, hb, hml, hown, hts⟩ := id hC
  have hT : va_K G.1 vwCl (tyL G) s := hE.1
  have hRet : ∀ (r9 : Int32) (f9 : Mem) (H : Heap) (locs : List Loc) (ls : Array Slot) (pc : Nat) (hK9 : (r9, f9) = (r, fz)) (hdg : decode cX7_need pc = .ok (.ireturn, 1)), va_P G.1 vwCl (wX7 G ad f9) H → va_D A (wX7 G ad f9) → va_S A s.heap H locs → W p l e ({ frames := 4, cells := 0, slots := 0, locals := 88 }) s m args below meth c H locs 0 0 (MQ below (Qi0 G A r (wX7 G ad fz)) args s 0 0 A) (F0 m pc ls [.int r9]) := by
    intro r9 f9 H locs ls pc hK9 hdg hP hD hS
    cases hK9
    exact W.iret hx hb hr (fun t ht hW => ⟨⟨r, (), rfl, rfl, by rw [ht]; exact hP, hD⟩, hS.F ht⟩) hS.2.2 hdg hlocks
  generalize MQ below (Qi0 G A r (wX7 G ad fz)) args s 0 0 A = Q at hRet ⊢
  have lk7 := hts (.fieldLink RX7 7 "FeatherSharesModel" "state" "[I") (by decide +kernel)
  have inX7 : ∀ w ∈ u_ws RX7 TX7 34, w ∈ wsX7_need := by decide +kernel
  have hl : lv_has ls 6 [(0, .ref (ad 0)), (1, .int x1), (2, .int x2), (3, .int x3)] := hl
  have hK0 : (r, fz) = (r, fz) := rfl
  obtain ⟨res, hres, hK⟩ : ∃ res, p_X7_need f x1 x2 x3 = some res ∧ res = (r, fz) := ⟨_, hf, rfl⟩
  clear hf
  have hf := hres
  clear hres
  unfold p_X7_need at hf
  refine lv_iload_n hx hb dX7_need_0 rfl (lv_at hl 1 rfl) ?_
  obtain ⟨r1, hc1, hf⟩ := bd_e hf
  refine cl_z_ro (Wd := (wX7 G ad f)) (Wc := ([] : va_W)) [] rfl (va_runS (As := [.int x1]) (rest := []) hC (c_X7_isOwner l G x1 r1 hc1 _) (va_cwS 1 hts gX7_need_X7_isOwner rfl rfl rfl (by decide +kernel) ⟨Nat.le_of_ble_eq_true rfl, Nat.le_of_ble_eq_true rfl⟩) ⟨Pc0_blind, fun U hU hW => Pc0_at (Wd := ([] : va_W)) hE (hP.subm [] rfl) (hD.sub [] (by decide) rfl) hU hW⟩ rfl rfl hl.1 rfl (lv_room (Nat.le_of_ble_eq_true rfl)) dX7_need_1 ⟨Nat.zero_le _, Nat.zero_le _⟩) hS hA hP hD (fun H locs hn1 hP hD hS => ?_)
  refine lv_if_eq (tgt := 25) hx hb dX7_need_4 (by decide) (fun hc => ?_) (fun hc => ?_)
  · have hf := if_t hf hc
    refine lv_iconst (v := (-1 : Int32)) hx hb dX7_need_25 (ic_m1) ?_
    have hK9 := K0_of hf hK
    exact hRet (-1 : Int32) f _ _ _ _ hK9 dX7_need_26 hP hD hS
  · have hf := if_f hf hc
    refine lv_aload_n hx hb dX7_need_7 rfl (lv_at hl 0 rfl) ?_
    refine lv_iload_n hx hb dX7_need_8 rfl (lv_at hl 2 rfl) ?_
    obtain ⟨r9, hc9, hf⟩ := bd_e hf
    refine cl_z_same (Wd := (wX7 G ad f)) (W' := (wX7 G ad f)) (va_runV (As := [.int x2]) (rest := []) hC (c_X7_isGoose l G ad f x2 r9 hc9 _) (cwV 1 hts gX7_need_X7_isGoose rfl rfl rfl (by decide +kernel) ⟨Nat.le_of_ble_eq_true rfl, Nat.le_of_ble_eq_true rfl⟩) ⟨Pc0_blind, va_recv hT hP (q0 := 0) (ci := 7) rfl rfl, fun U hU hW => Pc0_at hE hP hD hU hW⟩ rfl rfl hl.1 rfl (lv_room (Nat.le_of_ble_eq_true rfl)) dX7_need_9 ⟨Nat.zero_le _, Nat.zero_le _⟩) hS hA hD (fun H locs hn9 hP hD hS => ?_)
    refine lv_if_eq (tgt := 25) hx hb dX7_need_12 (by decide) (fun hc => ?_) (fun hc => ?_)
    · have hf := if_t hf hc
      refine lv_iconst (v := (-1 : Int32)) hx hb dX7_need_25 (ic_m1) ?_
      have hK9 := K0_of hf hK
      exact hRet (-1 : Int32) f _ _ _ _ hK9 dX7_need_26 hP hD hS
    · have hf := if_f hf hc
      refine lv_iload_n hx hb dX7_need_15 rfl (lv_at hl 3 rfl) ?_
      refine lv_i2l (v := ((x3).toInt64)) hx hb dX7_need_16 rfl ?_
      refine lv_lconst (v := (lN 0)) hx hb dX7_need_17 rfl ?_
      refine lv_lconst (v := (lN 1)) hx hb dX7_need_18 rfl ?_
      obtain ⟨r19, hc19, hf⟩ := bd_e hf
      refine cl_z_ro (Wd := (wX7 G ad f)) (Wc := ([] : va_W)) [] rfl (va_runS (As := [.long ((x3).toInt64), .long (lN 0), .long (lN 1)]) (rest := []) hC (c_X7_in l G ((x3).toInt64) (lN 0) (lN 1) r19 hc19 _) (va_cwS 3 hts gX7_need_X7_in rfl rfl rfl (by decide +kernel) ⟨Nat.le_of_ble_eq_true rfl, Nat.le_of_ble_eq_true rfl⟩) ⟨Pc0_blind, fun U hU hW => Pc0_at (Wd := ([] : va_W)) hE (hP.subm [] rfl) (hD.sub [] (by decide) rfl) hU hW⟩ rfl rfl hl.1 rfl (lv_room (Nat.le_of_ble_eq_true rfl)) dX7_need_19 ⟨Nat.zero_le _, Nat.zero_le _⟩) hS hA hP hD (fun H locs hn19 hP hD hS => ?_)
      refine lv_if_ne (tgt := 27) hx hb dX7_need_22 (by decide) (fun hc => ?_) (fun hc => ?_)
      · have hf := if_f hf hc
        refine lv_aload_n hx hb dX7_need_27 rfl (lv_at hl 0 rfl) ?_
        refine lv_iconst (v := (nI 0)) hx hb dX7_need_28 (ic_0) ?_
        refine lv_iload_n hx hb dX7_need_29 rfl (lv_at hl 2 rfl) ?_
        obtain ⟨r30, hc30, hf⟩ := bd_e hf
        refine cl_i_same (Wd := (wX7 G ad f)) (W' := (wX7 G ad f)) (va_runV (As := [.int (nI 0), .int x2]) (rest := []) hC (c_X7_eggOn l G ad f (nI 0) x2 r30 hc30 _) (cwV 2 hts gX7_need_X7_eggOn rfl rfl rfl (by decide +kernel) ⟨Nat.le_of_ble_eq_true rfl, Nat.le_of_ble_eq_true rfl⟩) ⟨Pc0_blind, va_recv hT hP (q0 := 0) (ci := 7) rfl rfl, fun U hU hW => Pc0_at hE hP hD hU hW⟩ rfl rfl hl.1 rfl (lv_room (Nat.le_of_ble_eq_true rfl)) dX7_need_30 ⟨Nat.zero_le _, Nat.zero_le _⟩) hS hA hD (fun H locs hP hD hS => ?_)
        refine lv_iload_n hx hb dX7_need_33 rfl (lv_at hl 1 rfl) ?_
        refine lv_icmp_ne (tgt := 40) hx hb dX7_need_34 (by decide) (fun hc => ?_) (fun hc => ?_)
        · have hf := if_f hf hc
          refine lv_iconst (v := (nI 1)) hx hb dX7_need_40 (ic_1) ?_
          refine lv_istore (lv' := [(4, .int (nI 1)), (0, .ref (ad 0)), (1, .int x1), (2, .int x2), (3, .int x3)]) hx hb dX7_need_41 hl (by decide) rfl (fun ls hl => ?_)
          obtain ⟨ze, hlp, hf⟩ := bd_e hf
          refine lp_W2 (p_X7_need_L43 x1 x2 x3) (fun z => match z with | (x4, f_) => ∀ (H : Heap) (locs : List Loc) (ls : Array Slot), va_P G.1 vwCl (wX7 G ad f_) H → va_D A (wX7 G ad f_) → va_S A s.heap H locs → lv_has ls 6 [(0, .ref (ad 0)), (1, .int x1), (2, .int x2), (3, .int x3), (4, .int x4)] → W p l e ({ frames := 4, cells := 0, slots := 0, locals := 88 }) s m args below meth c H locs 0 0 Q (F0 m 43 ls [])) (fun (f_43 : Mem) => ∀ (H : Heap) (locs : List Loc) (ls : Array Slot), va_P G.1 vwCl (wX7 G ad f_43) H → va_D A (wX7 G ad f_43) → va_S A s.heap H locs → lv_has ls 6 [] → W p l e ({ frames := 4, cells := 0, slots := 0, locals := 88 }) s m args below meth c H locs 0 0 Q (F0 m 141 ls [])) (fun z => z = (r, fz)) ?_ hlp ?_ _ _ _ hP hD hS (lv_sub hl [1, 2, 3, 4, 0] rfl)
          · clear hlp hf hK hP hD hS hl
            intro K43 hW43 hX43 hO43
            rintro ⟨x4, f_⟩ res hf hK H locs ls hP hD hS hl
            unfold p_X7_need_L43 at hf
            dsimp only at hf
            refine lv_iload hx hb dX7_need_43 (lv_at hl 4 rfl) ?_
            refine lv_bipush (v := (nI 9)) hx hb dX7_need_45 (bi_9) ?_
            refine lv_icmp_gt (tgt := 141) hx hb dX7_need_47 (by decide) (fun hc => ?_) (fun hc => ?_)
            · have hf := if_t hf hc
              have hK9 := K_of hf hK
              have hK9 := hX43 _ hK9
              exact hK9 _ _ _ hP hD hS (lv_sub hl [] rfl)
            · have hf := if_f hf hc
              refine lv_iconst (v := (nI 0)) hx hb dX7_need_50 (ic_0) ?_
              refine lv_istore (lv' := [(5, .int (nI 0)), (0, .ref (ad 0)), (1, .int x1), (2, .int x2), (3, .int x3), (4, .int x4)]) hx hb dX7_need_51 hl (by decide) rfl (fun ls hl => ?_)
              obtain ⟨ze, hlp, hf⟩ := bd_e hf
              refine lp_W2 (p_X7_need_L53 x1 x2 x3 x4) (fun z => match z with | (x5, f_) => ∀ (H : Heap) (locs : List Loc) (ls : Array Slot), va_P G.1 vwCl (wX7 G ad f_) H → va_D A (wX7 G ad f_) → va_S A s.heap H locs → lv_has ls 6 [(0, .ref (ad 0)), (1, .int x1), (2, .int x2), (3, .int x3), (4, .int x4), (5, .int x5)] → W p l e ({ frames := 4, cells := 0, slots := 0, locals := 88 }) s m args below meth c H locs 0 0 Q (F0 m 53 ls [])) (fun (f_53 : Mem) => ∀ (H : Heap) (locs : List Loc) (ls : Array Slot), va_P G.1 vwCl (wX7 G ad f_53) H → va_D A (wX7 G ad f_53) → va_S A s.heap H locs → lv_has ls 6 [(0, .ref (ad 0)), (1, .int x1), (2, .int x2), (3, .int x3), (4, .int x4)] → W p l e ({ frames := 4, cells := 0, slots := 0, locals := 88 }) s m args below meth c H locs 0 0 Q (F0 m 135 ls [])) (K43) ?_ hlp ?_ _ _ _ hP hD hS (lv_sub hl [1, 2, 3, 4, 5, 0] rfl)
              · clear hlp hf hK hP hD hS hl
                intro K53 hW53 hX53 hO53
                rintro ⟨x5, f_⟩ res hf hK H locs ls hP hD hS hl
                unfold p_X7_need_L53 at hf
                dsimp only at hf
                refine lv_iload hx hb dX7_need_53 (lv_at hl 5 rfl) ?_
                refine lv_iconst (v := (nI 5)) hx hb dX7_need_55 (ic_5) ?_
                refine lv_icmp_ge (tgt := 135) hx hb dX7_need_56 (by decide) (fun hc => ?_) (fun hc => ?_)
                · have hf := if_t hf hc
                  have hK9 := K_of hf hK
                  have hK9 := hX53 _ hK9
                  exact hK9 _ _ _ hP hD hS (lv_sub hl [0, 1, 2, 3, 4] rfl)
                · have hf := if_f hf hc
                  refine lv_aload_n hx hb dX7_need_59 rfl (lv_at hl 0 rfl) ?_
                  refine lv_iconst (v := (nI 0)) hx hb dX7_need_60 (ic_0) ?_
                  refine lv_sipush (v := (nI 240)) hx hb dX7_need_61 (si_240) ?_
                  obtain ⟨f_64, hc64, hf⟩ := bd_e hf
                  refine cl_v_same (Wd := (wX7 G ad f_)) (W' := (wX7 G ad f_64)) (va_runV (As := [.int (nI 0), .int (nI 240)]) (rest := []) hC (c_X7_copies l G ad f_ (nI 0) (nI 240) f_64 hc64 _) (cwV 2 hts gX7_need_X7_copies rfl rfl rfl (by decide +kernel) ⟨Nat.le_of_ble_eq_true rfl, Nat.le_of_ble_eq_true rfl⟩) ⟨Pc0_blind, va_recv hT hP (q0 := 0) (ci := 7) rfl rfl, fun U hU hW => Pc0_at hE hP hD hU hW⟩ rfl rfl hl.1 rfl (lv_room (Nat.le_of_ble_eq_true rfl)) dX7_need_64 ⟨Nat.zero_le _, Nat.zero_le _⟩) hS hA hD (fun H locs hP hD hS => ?_)
                  refine lv_iload hx hb dX7_need_67 (lv_at hl 5 rfl) ?_
                  refine lv_iload_n hx hb dX7_need_69 rfl (lv_at hl 1 rfl) ?_
                  refine lv_icmp_eq (tgt := 129) hx hb dX7_need_70 (by decide) (fun hc => ?_) (fun hc => ?_)
                  · have hf := if_t hf hc
                    refine lv_iinc (v := (x5 + nI 1)) (lv' := [(5, .int (x5 + nI 1)), (0, .ref (ad 0)), (1, .int x1), (2, .int x2), (3, .int x3), (4, .int x4)]) hx hb dX7_need_129 hl (k := 5) rfl (ii_x 1 _) (by decide) rfl (fun ls hl => ?_)
                    refine lv_goto (tgt := 53) hx hb dX7_need_132 (by decide) ?_
                    have hK9 := K_of hf hK
                    have hK9 := hW53 _ hK9
                    exact hK9 _ _ _ hP hD hS (lv_sub hl [1, 2, 3, 4, 5, 0] rfl)
                  · have hf := if_f hf hc
                    refine lv_aload_n hx hb dX7_need_73 rfl (lv_at hl 0 rfl) ?_
                    refine lv_sipush (v := (nI 240)) hx hb dX7_need_74 (si_240) ?_
                    refine lv_iload_n hx hb dX7_need_77 rfl (lv_at hl 1 rfl) ?_
                    refine lv_iload hx hb dX7_need_78 (lv_at hl 5 rfl) ?_
                    refine lv_iload_n hx hb dX7_need_80 rfl (lv_at hl 2 rfl) ?_
                    refine lv_iload hx hb dX7_need_81 (lv_at hl 4 rfl) ?_
                    obtain ⟨⟨r83, f_83⟩, hc83, hf⟩ := bd_e hf
                    try dsimp only at hf
                    refine cl_z_same (Wd := (wX7 G ad f_64)) (W' := (wX7 G ad f_83)) (va_runV (As := [.int (nI 240), .int x1, .int x5, .int x2, .int x4]) (rest := []) hC (c_X7_buysOn l G ad f_64 (nI 240) x1 x5 x2 x4 r83 f_83 hc83 _) (cwV 5 hts gX7_need_X7_buysOn rfl rfl rfl (by decide +kernel) ⟨Nat.le_of_ble_eq_true rfl, Nat.le_of_ble_eq_true rfl⟩) ⟨Pc0_blind, va_recv hT hP (q0 := 0) (ci := 7) rfl rfl, fun U hU hW => Pc0_at hE hP hD hU hW⟩ rfl rfl hl.1 rfl (lv_room (Nat.le_of_ble_eq_true rfl)) dX7_need_83 ⟨Nat.zero_le _, Nat.zero_le _⟩) hS hA hD (fun H locs hn83 hP hD hS => ?_)
                    refine lv_if_eq (tgt := 129) hx hb dX7_need_86 (by decide) (fun hc => ?_) (fun hc => ?_)
                    · have hf := if_t hf hc
                      refine lv_iinc (v := (x5 + nI 1)) (lv' := [(5, .int (x5 + nI 1)), (0, .ref (ad 0)), (1, .int x1), (2, .int x2), (3, .int x3), (4, .int x4)]) hx hb dX7_need_129 hl (k := 5) rfl (ii_x 1 _) (by decide) rfl (fun ls hl => ?_)
                      refine lv_goto (tgt := 53) hx hb dX7_need_132 (by decide) ?_
                      have hK9 := K_of hf hK
                      have hK9 := hW53 _ hK9
                      exact hK9 _ _ _ hP hD hS (lv_sub hl [1, 2, 3, 4, 5, 0] rfl)
                    · have hf := if_f hf hc
                      refine lv_aload_n hx hb dX7_need_89 rfl (lv_at hl 0 rfl) ?_
                      refine lv_sipush (v := (nI 240)) hx hb dX7_need_90 (si_240) ?_
                      refine lv_iload_n hx hb dX7_need_93 rfl (lv_at hl 2 rfl) ?_
                      obtain ⟨r94, hc94, hf⟩ := bd_e hf
                      refine cl_i_same (Wd := (wX7 G ad f_83)) (W' := (wX7 G ad f_83)) (va_runV (As := [.int (nI 240), .int x2]) (rest := []) hC (c_X7_eggOn l G ad f_83 (nI 240) x2 r94 hc94 _) (cwV 2 hts gX7_need_X7_eggOn rfl rfl rfl (by decide +kernel) ⟨Nat.le_of_ble_eq_true rfl, Nat.le_of_ble_eq_true rfl⟩) ⟨Pc0_blind, va_recv hT hP (q0 := 0) (ci := 7) rfl rfl, fun U hU hW => Pc0_at hE hP hD hU hW⟩ rfl rfl hl.1 rfl (lv_room (Nat.le_of_ble_eq_true rfl)) dX7_need_94 ⟨Nat.zero_le _, Nat.zero_le _⟩) hS hA hD (fun H locs hP hD hS => ?_)
                      refine lv_iload_n hx hb dX7_need_97 rfl (lv_at hl 1 rfl) ?_
                      refine lv_icmp_ne (tgt := 129) hx hb dX7_need_98 (by decide) (fun hc => ?_) (fun hc => ?_)
                      · have hf := if_f hf hc
                        refine lv_iinc (v := (x5 + nI 1)) (lv' := [(5, .int (x5 + nI 1)), (0, .ref (ad 0)), (1, .int x1), (2, .int x2), (3, .int x3), (4, .int x4)]) hx hb dX7_need_129 hl (k := 5) rfl (ii_x 1 _) (by decide) rfl (fun ls hl => ?_)
                        refine lv_goto (tgt := 53) hx hb dX7_need_132 (by decide) ?_
                        have hK9 := K_of hf hK
                        have hK9 := hW53 _ hK9
                        exact hK9 _ _ _ hP hD hS (lv_sub hl [1, 2, 3, 4, 5, 0] rfl)
                      · have hf := if_t hf hc
                        refine lv_iload_n hx hb dX7_need_101 rfl (lv_at hl 3 rfl) ?_
                        refine lv_if_ne (tgt := 116) hx hb dX7_need_102 (by decide) (fun hc => ?_) (fun hc => ?_)
                        · have hf := if_f hf hc
                          refine lv_iload hx hb dX7_need_116 (lv_at hl 4 rfl) ?_
                          refine lv_aload_n hx hb dX7_need_118 rfl (lv_at hl 0 rfl) ?_
                          refine va_get (C := RX7) (T := TX7) (N := 34) (ci := 7) (v := .ref (ad 1)) hx hb hts inX7 hown hT hP 0 rfl rfl 0 (Nat.le_of_ble_eq_true rfl) lk7 (fun _ h => h) rfl dX7_need_119 ?_
                          refine lv_bipush (v := (nI 6)) hx hb dX7_need_122 (bi_6) ?_
                          refine lv_iload_n hx hb dX7_need_124 rfl (lv_at hl 2 rfl) ?_
                          refine lv_iadd hx hb dX7_need_125 ?_
                          obtain ⟨hg, hf⟩ := gd_e hf
                          refine va_iald (f := f_83 1) hx hb hT hP 1 0 rfl rfl (inb_e hg) dX7_need_126 ?_
                          refine lv_imul hx hb dX7_need_127 ?_
                          have hK9 := K_of hf hK
                          have hK9 := hO53 _ hK9
                          have hK9 := hO43 _ hK9
                          exact hRet (x4 * (f_83 1 ((nI 6) + x2).toNatClampNeg)) f_83 _ _ _ _ hK9 dX7_need_128 hP hD hS
                        · have hf := if_t hf hc
                          refine lv_bipush (v := (nI 10)) hx hb dX7_need_105 (bi_10) ?_
                          refine lv_iload hx hb dX7_need_107 (lv_at hl 5 rfl) ?_
                          refine lv_imul hx hb dX7_need_109 ?_
                          refine lv_iload hx hb dX7_need_110 (lv_at hl 4 rfl) ?_
                          refine lv_iadd hx hb dX7_need_112 ?_
                          refine lv_goto (tgt := 128) hx hb dX7_need_113 (by decide) ?_
                          have hK9 := K_of hf hK
                          have hK9 := hO53 _ hK9
                          have hK9 := hO43 _ hK9
                          exact hRet (((nI 10) * x5) + x4) f_83 _ _ _ _ hK9 dX7_need_128 hP hD hS
              · rcases ze with f_53 | zo
                · try simp only [Sum.elim_inl] at hf
                  try dsimp only at hf
                  show ∀ (H : Heap) (locs : List Loc) (ls : Array Slot), va_P G.1 vwCl (wX7 G ad f_53) H → va_D A (wX7 G ad f_53) → va_S A s.heap H locs → lv_has ls 6 [(0, .ref (ad 0)), (1, .int x1), (2, .int x2), (3, .int x3), (4, .int x4)] → W p l e ({ frames := 4, cells := 0, slots := 0, locals := 88 }) s m args below meth c H locs 0 0 Q (F0 m 135 ls [])
                  intro H locs ls hP hD hS hl
                  refine lv_iinc (v := (x4 + nI 1)) (lv' := [(4, .int (x4 + nI 1)), (0, .ref (ad 0)), (1, .int x1), (2, .int x2), (3, .int x3)]) hx hb dX7_need_135 hl (k := 4) rfl (ii_x 1 _) (by decide) rfl (fun ls hl => ?_)
                  refine lv_goto (tgt := 43) hx hb dX7_need_138 (by decide) ?_
                  have hK9 := K_of hf hK
                  have hK9 := hW43 _ hK9
                  exact hK9 _ _ _ hP hD hS (lv_sub hl [1, 2, 3, 4, 0] rfl)
                · have hK9 := K_of (show some zo = some _ from hf) hK
                  exact hK9
          · rcases ze with f_43 | zo
            · try simp only [Sum.elim_inl] at hf
              try dsimp only at hf
              show ∀ (H : Heap) (locs : List Loc) (ls : Array Slot), va_P G.1 vwCl (wX7 G ad f_43) H → va_D A (wX7 G ad f_43) → va_S A s.heap H locs → lv_has ls 6 [] → W p l e ({ frames := 4, cells := 0, slots := 0, locals := 88 }) s m args below meth c H locs 0 0 Q (F0 m 141 ls [])
              intro H locs ls hP hD hS hl
              refine lv_bipush (v := (-4 : Int32)) hx hb dX7_need_141 (bi_m4) ?_
              have hK9 := K0_of hf hK
              exact hRet (-4 : Int32) f_43 _ _ _ _ hK9 dX7_need_143 hP hD hS
            · have hK9 := K0_of (show some zo = some _ from hf) hK
              exact hK9
        · have hf := if_t hf hc
          refine lv_bipush (v := (-2 : Int32)) hx hb dX7_need_37 (bi_m2) ?_
          have hK9 := K0_of hf hK
          exact hRet (-2 : Int32) f _ _ _ _ hK9 dX7_need_39 hP hD hS
      · have hf := if_t hf hc
        refine lv_iconst (v := (-1 : Int32)) hx hb dX7_need_25 (ic_m1) ?_
        have hK9 := K0_of hf hK
        exact hRet (-1 : Int32) f _ _ _ _ hK9 dX7_need_26 hP hD hS
noncomputable def p_X7_bitsOf_L4 (x0 : Int32) (z : Int32 × Int32) : Option ((Int32 × Int32) ⊕ Int32) :=
  match z with
  | (x1, x2) =>
    if (nI 5) ≤ x2 then
      (some (Sum.inr x1))
    else
      (some (Sum.inl ((x1 + ((x0 >>> (x2 &&& 31)) &&& (nI 1))), (x2 + nI 1))))
noncomputable def p_X7_bitsOf (x0 : Int32) : Option (Int32) :=
  Option.bind (lp (p_X7_bitsOf_L4 x0) ((nI 0), (nI 0))) <| fun y1_4 =>
  some y1_4
set_option maxHeartbeats 4000000 in
set_option maxRecDepth 100000 in
theorem c_X7_bitsOf (l : Launch) (G : Gt)  (x0 : Int32) (r : Int32) (hf : p_X7_bitsOf x0 = some r) (sz : Nat) : Met l yX7_bitsOf wsX7_bitsOf ({ frames := 1, cells := 0, slots := 0, locals := 12 }) (Pc0 G sz [.int x0] ([] : va_W)) (Qi0 G (va_A ([] : va_W) sz) r ([] : va_W)) 0 0 (va_A ([] : va_W) sz) := by
  refine metP (Qf := fun A => Qi0 G A r ([] : va_W)) cX7_bitsOf 3 (some .int) (by decide) rfl (Nat.le_of_ble_eq_true rfl) ?_
  intro p e s m below meth c A ls hC hr hlocks hin hE hA hsz hP hD hS hl
  generalize hargs : ([.int x0] : List Value).toArray = args at hC ⊢
  obtain ⟨hx, hb, hml, hown, hts⟩ := id hC
  have hT : va_K G.1 vwCl (tyL G) s := hE.1
  have hRet : ∀ (r9 : Int32) (H : Heap) (locs : List Loc) (ls : Array Slot) (pc : Nat) (hK9 : r9 = r) (hdg : decode cX7_bitsOf pc = .ok (.ireturn, 1)), va_P G.1 vwCl ([] : va_W) H → va_D A ([] : va_W) → va_S A s.heap H locs → W p l e ({ frames := 1, cells := 0, slots := 0, locals := 12 }) s m args below meth c H locs 0 0 (MQ below (Qi0 G A r ([] : va_W)) args s 0 0 A) (F0 m pc ls [.int r9]) := by
    intro r9 H locs ls pc hK9 hdg hP hD hS
    cases hK9
    exact W.iret hx hb hr (fun t ht hW => ⟨⟨r, (), rfl, rfl, by rw [ht]; exact hP, hD⟩, hS.F ht⟩) hS.2.2 hdg hlocks
  generalize MQ below (Qi0 G A r ([] : va_W)) args s 0 0 A = Q at hRet ⊢
  have hl : lv_has ls 3 [(0, .int x0)] := hl
  have hK0 : r = r := rfl
  obtain ⟨res, hres, hK⟩ : ∃ res, p_X7_bitsOf x0 = some res ∧ res = r := ⟨_, hf, rfl⟩
  clear hf
  have hf := hres
  clear hres
  unfold p_X7_bitsOf at hf
  refine lv_iconst (v := (nI 0)) hx hb dX7_bitsOf_0 (ic_0) ?_
  refine lv_istore_n (lv' := [(1, .int (nI 0)), (0, .int x0)]) hx hb dX7_bitsOf_1 rfl hl (by decide) rfl (fun ls hl => ?_)
  refine lv_iconst (v := (nI 0)) hx hb dX7_bitsOf_2 (ic_0) ?_
  refine lv_istore_n (lv' := [(2, .int (nI 0)), (1, .int (nI 0)), (0, .int x0)]) hx hb dX7_bitsOf_3 rfl hl (by decide) rfl (fun ls hl => ?_)
  obtain ⟨y1_4, hlp, hf⟩ := bd_e hf
  refine lp_W1 (p_X7_bitsOf_L4 x0) (fun z => match z with | (x1, x2) => ∀ (H : Heap) (locs : List Loc) (ls : Array Slot), va_P G.1 vwCl ([] : va_W) H → va_D A ([] : va_W) → va_S A s.heap H locs → lv_has ls 3 [(0, .int x0), (1, .int x1), (2, .int x2)] → W p l e ({ frames := 1, cells := 0, slots := 0, locals := 12 }) s m args below meth c H locs 0 0 Q (F0 m 4 ls [])) (fun (y1_4 : Int32) => ∀ (H : Heap) (locs : List Loc) (ls : Array Slot), va_P G.1 vwCl ([] : va_W) H → va_D A ([] : va_W) → va_S A s.heap H locs → lv_has ls 3 [(1, .int y1_4)] → W p l e ({ frames := 1, cells := 0, slots := 0, locals := 12 }) s m args below meth c H locs 0 0 Q (F0 m 23 ls [])) ?_ hlp ?_ _ _ _ hP hD hS (lv_sub hl [2, 1, 0] rfl)
  · clear hlp hf hK hP hD hS hl
    intro K4 hW4 hX4 
    rintro ⟨x1, x2⟩ res hf hK H locs ls hP hD hS hl
    unfold p_X7_bitsOf_L4 at hf
    dsimp only at hf
    refine lv_iload_n hx hb dX7_bitsOf_4 rfl (lv_at hl 2 rfl) ?_
    refine lv_iconst (v := (nI 5)) hx hb dX7_bitsOf_5 (ic_5) ?_
    refine lv_icmp_ge (tgt := 23) hx hb dX7_bitsOf_6 (by decide) (fun hc => ?_) (fun hc => ?_)
    · have hf := if_t hf hc
      have hK9 := K_of hf hK
      have hK9 := hX4 _ hK9
      exact hK9 _ _ _ hP hD hS (lv_sub hl [1] rfl)
    · have hf := if_f hf hc
      refine lv_iload_n hx hb dX7_bitsOf_9 rfl (lv_at hl 1 rfl) ?_
      refine lv_iload_n hx hb dX7_bitsOf_10 rfl (lv_at hl 0 rfl) ?_
      refine lv_iload_n hx hb dX7_bitsOf_11 rfl (lv_at hl 2 rfl) ?_
      refine lv_ishr hx hb dX7_bitsOf_12 ?_
      refine lv_iconst (v := (nI 1)) hx hb dX7_bitsOf_13 (ic_1) ?_
      refine lv_iand hx hb dX7_bitsOf_14 ?_
      refine lv_iadd hx hb dX7_bitsOf_15 ?_
      refine lv_istore_n (lv' := [(1, .int (x1 + ((x0 >>> (x2 &&& 31)) &&& (nI 1)))), (0, .int x0), (2, .int x2)]) hx hb dX7_bitsOf_16 rfl hl (by decide) rfl (fun ls hl => ?_)
      refine lv_iinc (v := (x2 + nI 1)) (lv' := [(2, .int (x2 + nI 1)), (1, .int (x1 + ((x0 >>> (x2 &&& 31)) &&& (nI 1)))), (0, .int x0)]) hx hb dX7_bitsOf_17 hl (k := 2) rfl (ii_x 1 _) (by decide) rfl (fun ls hl => ?_)
      refine lv_goto (tgt := 4) hx hb dX7_bitsOf_20 (by decide) ?_
      have hK9 := K_of hf hK
      have hK9 := hW4 _ hK9
      exact hK9 _ _ _ hP hD hS (lv_sub hl [2, 1, 0] rfl)
  · try dsimp only at hf
    show ∀ (H : Heap) (locs : List Loc) (ls : Array Slot), va_P G.1 vwCl ([] : va_W) H → va_D A ([] : va_W) → va_S A s.heap H locs → lv_has ls 3 [(1, .int y1_4)] → W p l e ({ frames := 1, cells := 0, slots := 0, locals := 12 }) s m args below meth c H locs 0 0 Q (F0 m 23 ls [])
    intro H locs ls hP hD hS hl
    refine lv_iload_n hx hb dX7_bitsOf_23 rfl (lv_at hl 0 rfl) ?_
    have hK9 := K0_of hf hK
    exact hRet y1_4 _ _ _ _ hK9 dX7_bitsOf_24 hP hD hS
noncomputable def p_X7_compares_B146 (f : Mem) (s0 : Int32) : Option (Mem) :=
  some (mset 0 20 s0 f)
noncomputable def p_X7_compares_B128 (f : Mem) (x5 : Int32) (x8 : Int32) (s0 : Int32) : Option (Mem) :=
  if x8 = 0 then
    (p_X7_compares_B146 (mset 0 19 s0 f) (f 0 20))
  else
    (p_X7_compares_B146 (mset 0 19 s0 f) x5)
noncomputable def p_X7_compares_B110 (f : Mem) (x4 : Int32) (x5 : Int32) (x8 : Int32) (s0 : Int32) : Option (Mem) :=
  if x8 = 0 then
    (p_X7_compares_B128 (mset 0 18 s0 f) x5 x8 (f 0 19))
  else
    (p_X7_compares_B128 (mset 0 18 s0 f) x5 x8 x4)
noncomputable def p_X7_compares_B93 (f : Mem) (x3 : Int32) (x4 : Int32) (x5 : Int32) (x8 : Int32) (s0 : Int32) : Option (Mem) :=
  if x8 = 0 then
    (p_X7_compares_B110 (mset 0 17 s0 f) x4 x5 x8 (f 0 18))
  else
    (p_X7_compares_B110 (mset 0 17 s0 f) x4 x5 x8 x3)
noncomputable def p_X7_compares_B75 (f : Mem) (x3 : Int32) (x4 : Int32) (x5 : Int32) (x7 : Int32) (x8 : Int32) (s0 : Int32) : Option (Mem) :=
  if x8 = 0 then
    (p_X7_compares_B93 (mset 0 16 s0 f) x3 x4 x5 x8 (f 0 17))
  else
    (p_X7_compares_B93 (mset 0 16 s0 f) x3 x4 x5 x8 x7)
noncomputable def p_X7_compares_B58 (f : Mem) (x3 : Int32) (x4 : Int32) (x5 : Int32) (x6 : Int32) (x7 : Int32) (s0 : Int32) : Option (Mem) :=
  if s0 = 0 then
    (p_X7_compares_B75 f x3 x4 x5 x7 s0 (f 0 16))
  else
    (p_X7_compares_B75 f x3 x4 x5 x7 s0 x6)
noncomputable def p_X7_compares_B57 (f : Mem) (x3 : Int32) (x4 : Int32) (x5 : Int32) (x6 : Int32) (x7 : Int32) : Option (Mem) :=
  p_X7_compares_B58 f x3 x4 x5 x6 x7 (nI 0)
noncomputable def p_X7_compares (f : Mem) (x1 : Int32) (x2 : Int32) (x3 : Int32) (x4 : Int32) (x5 : Int32) : Option (Mem) :=
  Option.bind (p_X7_eggsNow f x1 x2) <| fun r3 =>
  Option.bind (p_X7_bitsOf r3) <| fun r6 =>
  Option.bind (p_X7_moneyOn f (nI 0) x2) <| fun r14 =>
  Option.bind (p_X7_moneyOn f x1 x2) <| fun r20 =>
  if (f 0 16) < r6 then
    (p_X7_compares_B58 f x3 x4 x5 r6 (r14 - r20) (nI 1))
  else
    (if r6 = (f 0 16) then
       (if (f 0 17) ≤ (r14 - r20) then
          (p_X7_compares_B57 f x3 x4 x5 r6 (r14 - r20))
        else
          (p_X7_compares_B58 f x3 x4 x5 r6 (r14 - r20) (nI 1)))
     else
       (p_X7_compares_B57 f x3 x4 x5 r6 (r14 - r20)))
set_option maxHeartbeats 4000000 in
set_option maxRecDepth 100000 in
theorem c_X7_compares (l : Launch) (G : Gt) (ad : Nat → Nat) (f : Mem) (x1 : Int32) (x2 : Int32) (x3 : Int32) (x4 : Int32) (x5 : Int32) (fz : Mem) (hf : p_X7_compares f x1 x2 x3 x4 x5 = some fz) (sz : Nat) : Met l yX7_compares wsX7_compares ({ frames := 5, cells := 0, slots := 0, locals := 107 }) (Pc0 G sz [.ref (ad 0), .int x1, .int x2, .int x3, .int x4, .int x5] (wX7 G ad f)) (Qv0 G (va_A (wX7 G ad f) sz) (wX7 G ad fz)) 0 0 (va_A (wX7 G ad f) sz) := by
  refine metP (Qf := fun A => Qv0 G A (wX7 G ad fz)) cX7_compares 9 (none) (by decide) rfl (Nat.le_of_ble_eq_true rfl) ?_
  intro p e s m below meth c A ls hC hr hlocks hin hE hA hsz hP hD hS hl
  generalize hargs : ([.ref (ad 0), .int x1, .int x2, .int x3, .int x4, .int x5] : List Value).toArray = args at hC ⊢
  obtain ⟨hx, hb, hml, hown, hts⟩ := id hC
  have hT : va_K G.1 vwCl (tyL G) s := hE.1
  have hRet : ∀ (f9 : Mem) (H : Heap) (locs : List Loc) (ls : Array Slot) (pc : Nat) (hK9 : f9 = fz) (hdg : decode cX7_compares pc = .ok (.return_, 1)), va_P G.1 vwCl (wX7 G ad f9) H → va_D A (wX7 G ad f9) → va_S A s.heap H locs → W p l e ({ frames := 5, cells := 0, slots := 0, locals := 107 }) s m args below meth c H locs 0 0 (MQ below (Qv0 G A (wX7 G ad fz)) args s 0 0 A) (F0 m pc ls []) := by
    intro f9 H locs ls pc hK9 hdg hP hD hS
    cases hK9
    exact W.vret hx hb hr (fun t ht hW => ⟨⟨(), rfl, trivial, by rw [ht]; exact hP, hD⟩, hS.F ht⟩) hS.2.2 hdg hlocks
  generalize MQ below (Qv0 G A (wX7 G ad fz)) args s 0 0 A = Q at hRet ⊢
  have lk244 := hts (.fieldLink RX7 244 "FeatherSharesModel" "bestSecond" "I") (by decide +kernel)
  have inX7 : ∀ w ∈ u_ws RX7 TX7 34, w ∈ wsX7_compares := by decide +kernel
  have lk241 := hts (.fieldLink RX7 241 "FeatherSharesModel" "bestFirst" "I") (by decide +kernel)
  have lk238 := hts (.fieldLink RX7 238 "FeatherSharesModel" "bestMany" "I") (by decide +kernel)
  have lk235 := hts (.fieldLink RX7 235 "FeatherSharesModel" "bestMoney" "I") (by decide +kernel)
  have lk232 := hts (.fieldLink RX7 232 "FeatherSharesModel" "bestGeese" "I") (by decide +kernel)
  have hl : lv_has ls 9 [(0, .ref (ad 0)), (1, .int x1), (2, .int x2), (3, .int x3), (4, .int x4), (5, .int x5)] := hl
  have hK0 : fz = fz := rfl
  have hB146 : ∀ (f : Mem) (s0 : Int32) (res : Mem) (hf : p_X7_compares_B146 f s0 = some res) (hK : res = fz), ∀ (H : Heap) (locs : List Loc) (ls : Array Slot), va_P G.1 vwCl (wX7 G ad f) H → va_D A (wX7 G ad f) → va_S A s.heap H locs → lv_has ls 9 [] → W p l e ({ frames := 5, cells := 0, slots := 0, locals := 107 }) s m args below meth c H locs 0 0 Q (F0 m 146 ls [.int s0, .ref (ad 0)]) := by
    intro f s0 res hf hK H locs ls hP hD hS hl
    unfold p_X7_compares_B146 at hf
    refine va_put (C := RX7) (T := TX7) (N := 34) (ci := 7) (ty := .int) (v := .int s0) hx hb hts inX7 tyX7 tyX7_ok nmX7 hown hT hP hD hS 0 rfl rfl 25 (Nat.le_of_ble_eq_true rfl) lk244 (fun _ h => h) rfl (by decide +kernel) rfl rfl (Nat.le_of_ble_eq_true rfl) dX7_compares_146 (fun H locs hP hD hS => ?_)
    have hP : va_P G.1 vwCl (wX7 G ad (mset 0 20 s0 f)) H := hP
    have hD : va_D A (wX7 G ad (mset 0 20 s0 f)) := hD
    have hK9 := K0_of hf hK
    exact hRet (mset 0 20 s0 f) _ _ _ _ hK9 dX7_compares_149 hP hD hS
  have hB128 : ∀ (f : Mem) (x5 : Int32) (x8 : Int32) (s0 : Int32) (res : Mem) (hf : p_X7_compares_B128 f x5 x8 s0 = some res) (hK : res = fz), ∀ (H : Heap) (locs : List Loc) (ls : Array Slot), va_P G.1 vwCl (wX7 G ad f) H → va_D A (wX7 G ad f) → va_S A s.heap H locs → lv_has ls 9 [(0, .ref (ad 0)), (5, .int x5), (8, .int x8)] → W p l e ({ frames := 5, cells := 0, slots := 0, locals := 107 }) s m args below meth c H locs 0 0 Q (F0 m 128 ls [.int s0, .ref (ad 0)]) := by
    intro f x5 x8 s0 res hf hK H locs ls hP hD hS hl
    unfold p_X7_compares_B128 at hf
    refine va_put (C := RX7) (T := TX7) (N := 34) (ci := 7) (ty := .int) (v := .int s0) hx hb hts inX7 tyX7 tyX7_ok nmX7 hown hT hP hD hS 0 rfl rfl 24 (Nat.le_of_ble_eq_true rfl) lk241 (fun _ h => h) rfl (by decide +kernel) rfl rfl (Nat.le_of_ble_eq_true rfl) dX7_compares_128 (fun H locs hP hD hS => ?_)
    have hP : va_P G.1 vwCl (wX7 G ad (mset 0 19 s0 f)) H := hP
    have hD : va_D A (wX7 G ad (mset 0 19 s0 f)) := hD
    refine lv_aload_n hx hb dX7_compares_131 rfl (lv_at hl 0 rfl) ?_
    refine lv_iload hx hb dX7_compares_132 (lv_at hl 2 rfl) ?_
    refine lv_if_eq (tgt := 142) hx hb dX7_compares_134 (by decide) (fun hc => ?_) (fun hc => ?_)
    · have hf := if_t hf hc
      refine lv_aload_n hx hb dX7_compares_142 rfl (lv_at hl 0 rfl) ?_
      refine va_get (C := RX7) (T := TX7) (N := 34) (ci := 7) (v := .int (f 0 20)) hx hb hts inX7 hown hT hP 0 rfl rfl 25 (Nat.le_of_ble_eq_true rfl) lk244 (fun _ h => h) rfl dX7_compares_143 ?_
      exact hB146 (mset 0 19 s0 f) (f 0 20) _ hf hK _ _ _ hP hD hS (lv_sub hl [] rfl)
    · have hf := if_f hf hc
      refine lv_iload hx hb dX7_compares_137 (lv_at hl 1 rfl) ?_
      refine lv_goto (tgt := 146) hx hb dX7_compares_139 (by decide) ?_
      exact hB146 (mset 0 19 s0 f) x5 _ hf hK _ _ _ hP hD hS (lv_sub hl [] rfl)
  have hB110 : ∀ (f : Mem) (x4 : Int32) (x5 : Int32) (x8 : Int32) (s0 : Int32) (res : Mem) (hf : p_X7_compares_B110 f x4 x5 x8 s0 = some res) (hK : res = fz), ∀ (H : Heap) (locs : List Loc) (ls : Array Slot), va_P G.1 vwCl (wX7 G ad f) H → va_D A (wX7 G ad f) → va_S A s.heap H locs → lv_has ls 9 [(0, .ref (ad 0)), (4, .int x4), (5, .int x5), (8, .int x8)] → W p l e ({ frames := 5, cells := 0, slots := 0, locals := 107 }) s m args below meth c H locs 0 0 Q (F0 m 110 ls [.int s0, .ref (ad 0)]) := by
    intro f x4 x5 x8 s0 res hf hK H locs ls hP hD hS hl
    unfold p_X7_compares_B110 at hf
    refine va_put (C := RX7) (T := TX7) (N := 34) (ci := 7) (ty := .int) (v := .int s0) hx hb hts inX7 tyX7 tyX7_ok nmX7 hown hT hP hD hS 0 rfl rfl 23 (Nat.le_of_ble_eq_true rfl) lk238 (fun _ h => h) rfl (by decide +kernel) rfl rfl (Nat.le_of_ble_eq_true rfl) dX7_compares_110 (fun H locs hP hD hS => ?_)
    have hP : va_P G.1 vwCl (wX7 G ad (mset 0 18 s0 f)) H := hP
    have hD : va_D A (wX7 G ad (mset 0 18 s0 f)) := hD
    refine lv_aload_n hx hb dX7_compares_113 rfl (lv_at hl 0 rfl) ?_
    refine lv_iload hx hb dX7_compares_114 (lv_at hl 3 rfl) ?_
    refine lv_if_eq (tgt := 124) hx hb dX7_compares_116 (by decide) (fun hc => ?_) (fun hc => ?_)
    · have hf := if_t hf hc
      refine lv_aload_n hx hb dX7_compares_124 rfl (lv_at hl 0 rfl) ?_
      refine va_get (C := RX7) (T := TX7) (N := 34) (ci := 7) (v := .int (f 0 19)) hx hb hts inX7 hown hT hP 0 rfl rfl 24 (Nat.le_of_ble_eq_true rfl) lk241 (fun _ h => h) rfl dX7_compares_125 ?_
      exact hB128 (mset 0 18 s0 f) x5 x8 (f 0 19) _ hf hK _ _ _ hP hD hS (lv_sub hl [0, 2, 3] rfl)
    · have hf := if_f hf hc
      refine lv_iload hx hb dX7_compares_119 (lv_at hl 1 rfl) ?_
      refine lv_goto (tgt := 128) hx hb dX7_compares_121 (by decide) ?_
      exact hB128 (mset 0 18 s0 f) x5 x8 x4 _ hf hK _ _ _ hP hD hS (lv_sub hl [0, 2, 3] rfl)
  have hB93 : ∀ (f : Mem) (x3 : Int32) (x4 : Int32) (x5 : Int32) (x8 : Int32) (s0 : Int32) (res : Mem) (hf : p_X7_compares_B93 f x3 x4 x5 x8 s0 = some res) (hK : res = fz), ∀ (H : Heap) (locs : List Loc) (ls : Array Slot), va_P G.1 vwCl (wX7 G ad f) H → va_D A (wX7 G ad f) → va_S A s.heap H locs → lv_has ls 9 [(0, .ref (ad 0)), (3, .int x3), (4, .int x4), (5, .int x5), (8, .int x8)] → W p l e ({ frames := 5, cells := 0, slots := 0, locals := 107 }) s m args below meth c H locs 0 0 Q (F0 m 93 ls [.int s0, .ref (ad 0)]) := by
    intro f x3 x4 x5 x8 s0 res hf hK H locs ls hP hD hS hl
    unfold p_X7_compares_B93 at hf
    refine va_put (C := RX7) (T := TX7) (N := 34) (ci := 7) (ty := .int) (v := .int s0) hx hb hts inX7 tyX7 tyX7_ok nmX7 hown hT hP hD hS 0 rfl rfl 22 (Nat.le_of_ble_eq_true rfl) lk235 (fun _ h => h) rfl (by decide +kernel) rfl rfl (Nat.le_of_ble_eq_true rfl) dX7_compares_93 (fun H locs hP hD hS => ?_)
    have hP : va_P G.1 vwCl (wX7 G ad (mset 0 17 s0 f)) H := hP
    have hD : va_D A (wX7 G ad (mset 0 17 s0 f)) := hD
    refine lv_aload_n hx hb dX7_compares_96 rfl (lv_at hl 0 rfl) ?_
    refine lv_iload hx hb dX7_compares_97 (lv_at hl 4 rfl) ?_
    refine lv_if_eq (tgt := 106) hx hb dX7_compares_99 (by decide) (fun hc => ?_) (fun hc => ?_)
    · have hf := if_t hf hc
      refine lv_aload_n hx hb dX7_compares_106 rfl (lv_at hl 0 rfl) ?_
      refine va_get (C := RX7) (T := TX7) (N := 34) (ci := 7) (v := .int (f 0 18)) hx hb hts inX7 hown hT hP 0 rfl rfl 23 (Nat.le_of_ble_eq_true rfl) lk238 (fun _ h => h) rfl dX7_compares_107 ?_
      exact hB110 (mset 0 17 s0 f) x4 x5 x8 (f 0 18) _ hf hK _ _ _ hP hD hS (lv_sub hl [0, 2, 3, 4] rfl)
    · have hf := if_f hf hc
      refine lv_iload_n hx hb dX7_compares_102 rfl (lv_at hl 1 rfl) ?_
      refine lv_goto (tgt := 110) hx hb dX7_compares_103 (by decide) ?_
      exact hB110 (mset 0 17 s0 f) x4 x5 x8 x3 _ hf hK _ _ _ hP hD hS (lv_sub hl [0, 2, 3, 4] rfl)
  have hB75 : ∀ (f : Mem) (x3 : Int32) (x4 : Int32) (x5 : Int32) (x7 : Int32) (x8 : Int32) (s0 : Int32) (res : Mem) (hf : p_X7_compares_B75 f x3 x4 x5 x7 x8 s0 = some res) (hK : res = fz), ∀ (H : Heap) (locs : List Loc) (ls : Array Slot), va_P G.1 vwCl (wX7 G ad f) H → va_D A (wX7 G ad f) → va_S A s.heap H locs → lv_has ls 9 [(0, .ref (ad 0)), (3, .int x3), (4, .int x4), (5, .int x5), (7, .int x7), (8, .int x8)] → W p l e ({ frames := 5, cells := 0, slots := 0, locals := 107 }) s m args below meth c H locs 0 0 Q (F0 m 75 ls [.int s0, .ref (ad 0)]) := by
    intro f x3 x4 x5 x7 x8 s0 res hf hK H locs ls hP hD hS hl
    unfold p_X7_compares_B75 at hf
    refine va_put (C := RX7) (T := TX7) (N := 34) (ci := 7) (ty := .int) (v := .int s0) hx hb hts inX7 tyX7 tyX7_ok nmX7 hown hT hP hD hS 0 rfl rfl 21 (Nat.le_of_ble_eq_true rfl) lk232 (fun _ h => h) rfl (by decide +kernel) rfl rfl (Nat.le_of_ble_eq_true rfl) dX7_compares_75 (fun H locs hP hD hS => ?_)
    have hP : va_P G.1 vwCl (wX7 G ad (mset 0 16 s0 f)) H := hP
    have hD : va_D A (wX7 G ad (mset 0 16 s0 f)) := hD
    refine lv_aload_n hx hb dX7_compares_78 rfl (lv_at hl 0 rfl) ?_
    refine lv_iload hx hb dX7_compares_79 (lv_at hl 5 rfl) ?_
    refine lv_if_eq (tgt := 89) hx hb dX7_compares_81 (by decide) (fun hc => ?_) (fun hc => ?_)
    · have hf := if_t hf hc
      refine lv_aload_n hx hb dX7_compares_89 rfl (lv_at hl 0 rfl) ?_
      refine va_get (C := RX7) (T := TX7) (N := 34) (ci := 7) (v := .int (f 0 17)) hx hb hts inX7 hown hT hP 0 rfl rfl 22 (Nat.le_of_ble_eq_true rfl) lk235 (fun _ h => h) rfl dX7_compares_90 ?_
      exact hB93 (mset 0 16 s0 f) x3 x4 x5 x8 (f 0 17) _ hf hK _ _ _ hP hD hS (lv_sub hl [0, 1, 2, 3, 5] rfl)
    · have hf := if_f hf hc
      refine lv_iload hx hb dX7_compares_84 (lv_at hl 4 rfl) ?_
      refine lv_goto (tgt := 93) hx hb dX7_compares_86 (by decide) ?_
      exact hB93 (mset 0 16 s0 f) x3 x4 x5 x8 x7 _ hf hK _ _ _ hP hD hS (lv_sub hl [0, 1, 2, 3, 5] rfl)
  have hB58 : ∀ (f : Mem) (x3 : Int32) (x4 : Int32) (x5 : Int32) (x6 : Int32) (x7 : Int32) (s0 : Int32) (res : Mem) (hf : p_X7_compares_B58 f x3 x4 x5 x6 x7 s0 = some res) (hK : res = fz), ∀ (H : Heap) (locs : List Loc) (ls : Array Slot), va_P G.1 vwCl (wX7 G ad f) H → va_D A (wX7 G ad f) → va_S A s.heap H locs → lv_has ls 9 [(0, .ref (ad 0)), (3, .int x3), (4, .int x4), (5, .int x5), (6, .int x6), (7, .int x7)] → W p l e ({ frames := 5, cells := 0, slots := 0, locals := 107 }) s m args below meth c H locs 0 0 Q (F0 m 58 ls [.int s0]) := by
    intro f x3 x4 x5 x6 x7 s0 res hf hK H locs ls hP hD hS hl
    unfold p_X7_compares_B58 at hf
    refine lv_istore (lv' := [(8, .int s0), (0, .ref (ad 0)), (3, .int x3), (4, .int x4), (5, .int x5), (6, .int x6), (7, .int x7)]) hx hb dX7_compares_58 hl (by decide) rfl (fun ls hl => ?_)
    refine lv_aload_n hx hb dX7_compares_60 rfl (lv_at hl 1 rfl) ?_
    refine lv_iload hx hb dX7_compares_61 (lv_at hl 0 rfl) ?_
    refine lv_if_eq (tgt := 71) hx hb dX7_compares_63 (by decide) (fun hc => ?_) (fun hc => ?_)
    · have hf := if_t hf hc
      refine lv_aload_n hx hb dX7_compares_71 rfl (lv_at hl 1 rfl) ?_
      refine va_get (C := RX7) (T := TX7) (N := 34) (ci := 7) (v := .int (f 0 16)) hx hb hts inX7 hown hT hP 0 rfl rfl 21 (Nat.le_of_ble_eq_true rfl) lk232 (fun _ h => h) rfl dX7_compares_72 ?_
      exact hB75 f x3 x4 x5 x7 s0 (f 0 16) _ hf hK _ _ _ hP hD hS (lv_sub hl [1, 2, 3, 4, 6, 0] rfl)
    · have hf := if_f hf hc
      refine lv_iload hx hb dX7_compares_66 (lv_at hl 5 rfl) ?_
      refine lv_goto (tgt := 75) hx hb dX7_compares_68 (by decide) ?_
      exact hB75 f x3 x4 x5 x7 s0 x6 _ hf hK _ _ _ hP hD hS (lv_sub hl [1, 2, 3, 4, 6, 0] rfl)
  have hB57 : ∀ (f : Mem) (x3 : Int32) (x4 : Int32) (x5 : Int32) (x6 : Int32) (x7 : Int32) (res : Mem) (hf : p_X7_compares_B57 f x3 x4 x5 x6 x7 = some res) (hK : res = fz), ∀ (H : Heap) (locs : List Loc) (ls : Array Slot), va_P G.1 vwCl (wX7 G ad f) H → va_D A (wX7 G ad f) → va_S A s.heap H locs → lv_has ls 9 [(0, .ref (ad 0)), (3, .int x3), (4, .int x4), (5, .int x5), (6, .int x6), (7, .int x7)] → W p l e ({ frames := 5, cells := 0, slots := 0, locals := 107 }) s m args below meth c H locs 0 0 Q (F0 m 57 ls []) := by
    intro f x3 x4 x5 x6 x7 res hf hK H locs ls hP hD hS hl
    unfold p_X7_compares_B57 at hf
    refine lv_iconst (v := (nI 0)) hx hb dX7_compares_57 (ic_0) ?_
    exact hB58 f x3 x4 x5 x6 x7 (nI 0) _ hf hK _ _ _ hP hD hS (lv_sub hl [0, 1, 2, 3, 4, 5] rfl)
  obtain ⟨res, hres, hK⟩ : ∃ res, p_X7_compares f x1 x2 x3 x4 x5 = some res ∧ res = fz := ⟨_, hf, rfl⟩
  clear hf
  have hf := hres
  clear hres
  unfold p_X7_compares at hf
  refine lv_aload_n hx hb dX7_compares_0 rfl (lv_at hl 0 rfl) ?_
  refine lv_iload_n hx hb dX7_compares_1 rfl (lv_at hl 1 rfl) ?_
  refine lv_iload_n hx hb dX7_compares_2 rfl (lv_at hl 2 rfl) ?_
  obtain ⟨r3, hc3, hf⟩ := bd_e hf
  refine cl_i_same (Wd := (wX7 G ad f)) (W' := (wX7 G ad f)) (va_runV (As := [.int x1, .int x2]) (rest := []) hC (c_X7_eggsNow l G ad f x1 x2 r3 hc3 _) (cwV 2 hts gX7_compares_X7_eggsNow rfl rfl rfl (by decide +kernel) ⟨Nat.le_of_ble_eq_true rfl, Nat.le_of_ble_eq_true rfl⟩) ⟨Pc0_blind, va_recv hT hP (q0 := 0) (ci := 7) rfl rfl, fun U hU hW => Pc0_at hE hP hD hU hW⟩ rfl rfl hl.1 rfl (lv_room (Nat.le_of_ble_eq_true rfl)) dX7_compares_3 ⟨Nat.zero_le _, Nat.zero_le _⟩) hS hA hD (fun H locs hP hD hS => ?_)
  obtain ⟨r6, hc6, hf⟩ := bd_e hf
  refine cl_i_ro (Wd := (wX7 G ad f)) (Wc := ([] : va_W)) [] rfl (va_runS (As := [.int r3]) (rest := []) hC (c_X7_bitsOf l G r3 r6 hc6 _) (va_cwS 1 hts gX7_compares_X7_bitsOf rfl rfl rfl (by decide +kernel) ⟨Nat.le_of_ble_eq_true rfl, Nat.le_of_ble_eq_true rfl⟩) ⟨Pc0_blind, fun U hU hW => Pc0_at (Wd := ([] : va_W)) hE (hP.subm [] rfl) (hD.sub [] (by decide) rfl) hU hW⟩ rfl rfl hl.1 rfl (lv_room (Nat.le_of_ble_eq_true rfl)) dX7_compares_6 ⟨Nat.zero_le _, Nat.zero_le _⟩) hS hA hP hD (fun H locs hP hD hS => ?_)
  refine lv_istore (lv' := [(6, .int r6), (0, .ref (ad 0)), (1, .int x1), (2, .int x2), (3, .int x3), (4, .int x4), (5, .int x5)]) hx hb dX7_compares_9 hl (by decide) rfl (fun ls hl => ?_)
  refine lv_aload_n hx hb dX7_compares_11 rfl (lv_at hl 1 rfl) ?_
  refine lv_iconst (v := (nI 0)) hx hb dX7_compares_12 (ic_0) ?_
  refine lv_iload_n hx hb dX7_compares_13 rfl (lv_at hl 3 rfl) ?_
  obtain ⟨r14, hc14, hf⟩ := bd_e hf
  refine cl_i_same (Wd := (wX7 G ad f)) (W' := (wX7 G ad f)) (va_runV (As := [.int (nI 0), .int x2]) (rest := []) hC (c_X7_moneyOn l G ad f (nI 0) x2 r14 hc14 _) (cwV 2 hts gX7_compares_X7_moneyOn rfl rfl rfl (by decide +kernel) ⟨Nat.le_of_ble_eq_true rfl, Nat.le_of_ble_eq_true rfl⟩) ⟨Pc0_blind, va_recv hT hP (q0 := 0) (ci := 7) rfl rfl, fun U hU hW => Pc0_at hE hP hD hU hW⟩ rfl rfl hl.1 rfl (lv_room (Nat.le_of_ble_eq_true rfl)) dX7_compares_14 ⟨Nat.zero_le _, Nat.zero_le _⟩) hS hA hD (fun H locs hP hD hS => ?_)
  refine lv_aload_n hx hb dX7_compares_17 rfl (lv_at hl 1 rfl) ?_
  refine lv_iload_n hx hb dX7_compares_18 rfl (lv_at hl 2 rfl) ?_
  refine lv_iload_n hx hb dX7_compares_19 rfl (lv_at hl 3 rfl) ?_
  obtain ⟨r20, hc20, hf⟩ := bd_e hf
  refine cl_i_same (Wd := (wX7 G ad f)) (W' := (wX7 G ad f)) (va_runV (As := [.int x1, .int x2]) (rest := [.int r14]) hC (c_X7_moneyOn l G ad f x1 x2 r20 hc20 _) (cwV 2 hts gX7_compares_X7_moneyOn rfl rfl rfl (by decide +kernel) ⟨Nat.le_of_ble_eq_true rfl, Nat.le_of_ble_eq_true rfl⟩) ⟨Pc0_blind, va_recv hT hP (q0 := 0) (ci := 7) rfl rfl, fun U hU hW => Pc0_at hE hP hD hU hW⟩ rfl rfl hl.1 rfl (lv_room (Nat.le_of_ble_eq_true rfl)) dX7_compares_20 ⟨Nat.zero_le _, Nat.zero_le _⟩) hS hA hD (fun H locs hP hD hS => ?_)
  refine lv_isub hx hb dX7_compares_23 ?_
  refine lv_istore (lv' := [(7, .int (r14 - r20)), (6, .int r6), (0, .ref (ad 0)), (1, .int x1), (2, .int x2), (3, .int x3), (4, .int x4), (5, .int x5)]) hx hb dX7_compares_24 hl (by decide) rfl (fun ls hl => ?_)
  refine lv_iload hx hb dX7_compares_26 (lv_at hl 1 rfl) ?_
  refine lv_aload_n hx hb dX7_compares_28 rfl (lv_at hl 2 rfl) ?_
  refine va_get (C := RX7) (T := TX7) (N := 34) (ci := 7) (v := .int (f 0 16)) hx hb hts inX7 hown hT hP 0 rfl rfl 21 (Nat.le_of_ble_eq_true rfl) lk232 (fun _ h => h) rfl dX7_compares_29 ?_
  refine lv_icmp_gt (tgt := 53) hx hb dX7_compares_32 (by decide) (fun hc => ?_) (fun hc => ?_)
  · have hf := if_t hf hc
    refine lv_iconst (v := (nI 1)) hx hb dX7_compares_53 (ic_1) ?_
    refine lv_goto (tgt := 58) hx hb dX7_compares_54 (by decide) ?_
    exact hB58 f x3 x4 x5 r6 (r14 - r20) (nI 1) _ hf hK _ _ _ hP hD hS (lv_sub hl [2, 5, 6, 7, 1, 0] rfl)
  · have hf := if_f hf hc
    refine lv_iload hx hb dX7_compares_35 (lv_at hl 1 rfl) ?_
    refine lv_aload_n hx hb dX7_compares_37 rfl (lv_at hl 2 rfl) ?_
    refine va_get (C := RX7) (T := TX7) (N := 34) (ci := 7) (v := .int (f 0 16)) hx hb hts inX7 hown hT hP 0 rfl rfl 21 (Nat.le_of_ble_eq_true rfl) lk232 (fun _ h => h) rfl dX7_compares_38 ?_
    refine lv_icmp_ne (tgt := 57) hx hb dX7_compares_41 (by decide) (fun hc => ?_) (fun hc => ?_)
    · have hf := if_f hf hc
      exact hB57 f x3 x4 x5 r6 (r14 - r20) _ hf hK _ _ _ hP hD hS (lv_sub hl [2, 5, 6, 7, 1, 0] rfl)
    · have hf := if_t hf hc
      refine lv_iload hx hb dX7_compares_44 (lv_at hl 0 rfl) ?_
      refine lv_aload_n hx hb dX7_compares_46 rfl (lv_at hl 2 rfl) ?_
      refine va_get (C := RX7) (T := TX7) (N := 34) (ci := 7) (v := .int (f 0 17)) hx hb hts inX7 hown hT hP 0 rfl rfl 22 (Nat.le_of_ble_eq_true rfl) lk235 (fun _ h => h) rfl dX7_compares_47 ?_
      refine lv_icmp_ge (tgt := 57) hx hb dX7_compares_50 (by decide) (fun hc => ?_) (fun hc => ?_)
      · have hf := if_t hf hc
        exact hB57 f x3 x4 x5 r6 (r14 - r20) _ hf hK _ _ _ hP hD hS (lv_sub hl [2, 5, 6, 7, 1, 0] rfl)
      · have hf := if_f hf hc
        refine lv_iconst (v := (nI 1)) hx hb dX7_compares_53 (ic_1) ?_
        refine lv_goto (tgt := 58) hx hb dX7_compares_54 (by decide) ?_
        exact hB58 f x3 x4 x5 r6 (r14 - r20) (nI 1) _ hf hK _ _ _ hP hD hS (lv_sub hl [2, 5, 6, 7, 1, 0] rfl)
noncomputable def p_X7_buysBy (f : Mem) (x1 : Int32) (x2 : Int32) (x3 : Int32) : Option (Int32 × Mem) :=
  Option.bind (p_X7_isTrade f x2 (x3 / (nI 100)) ((x3 / (nI 10)) - (x3 / (nI 10)) / (nI 10) * (nI 10)) (x3 - x3 / (nI 10) * (nI 10))) <| fun r29 =>
  if r29 = 0 then
    (some ((nI 0), f))
  else
    (Option.bind (p_X7_buysOn f x1 x2 (x3 / (nI 100)) ((x3 / (nI 10)) - (x3 / (nI 10)) / (nI 10) * (nI 10)) (x3 - x3 / (nI 10) * (nI 10))) <| fun (r44, f_44) =>
     if r44 = 0 then
       (some ((nI 0), f_44))
     else
       (some ((nI 1), f_44)))
set_option maxHeartbeats 4000000 in
set_option maxRecDepth 100000 in
theorem c_X7_buysBy (l : Launch) (G : Gt) (ad : Nat → Nat) (f : Mem) (x1 : Int32) (x2 : Int32) (x3 : Int32) (r : Int32) (fz : Mem) (hf : p_X7_buysBy f x1 x2 x3 = some (r, fz)) (sz : Nat) : Met l yX7_buysBy wsX7_buysBy ({ frames := 4, cells := 0, slots := 0, locals := 88 }) (Pc0 G sz [.ref (ad 0), .int x1, .int x2, .int x3] (wX7 G ad f)) (Qz0 G (va_A (wX7 G ad f) sz) r (wX7 G ad fz)) 0 0 (va_A (wX7 G ad f) sz) := by
  refine metP (Qf := fun A => Qz0 G A r (wX7 G ad fz)) cX7_buysBy 7 (some .boolean) (by decide) rfl (Nat.le_of_ble_eq_true rfl) ?_
  intro p e s m below meth c A ls hC hr hlocks hin hE hA hsz hP hD hS hl
  generalize hargs : ([.ref (ad 0), .int x1, .int x2, .int x3] : List Value).toArray = args at hC ⊢
  obtain ⟨hx, hb, hml, hown, hts⟩ := id hC
  have hT : va_K G.1 vwCl (tyL G) s := hE.1
  have hRet : ∀ (r9 : Int32) (f9 : Mem) (H : Heap) (locs : List Loc) (ls : Array Slot) (pc : Nat) (hK9 : (r9, f9) = (r, fz)) (hn9 : narrow .boolean (.int r9) = .int r9) (hdg : decode cX7_buysBy pc = .ok (.ireturn, 1)), va_P G.1 vwCl (wX7 G ad f9) H → va_D A (wX7 G ad f9) → va_S A s.heap H locs → W p l e ({ frames := 4, cells := 0, slots := 0, locals := 88 }) s m args below meth c H locs 0 0 (MQ below (Qz0 G A r (wX7 G ad fz)) args s 0 0 A) (F0 m pc ls [.int r9]) := by
    intro r9 f9 H locs ls pc hK9 hn9 hdg hP hD hS
    cases hK9
    exact W.zret hx hb hr hn9 (fun t ht hW => ⟨⟨r, (), rfl, ⟨rfl, hn9⟩, by rw [ht]; exact hP, hD⟩, hS.F ht⟩) hS.2.2 hdg hlocks
  generalize MQ below (Qz0 G A r (wX7 G ad fz)) args s 0 0 A = Q at hRet ⊢
  have hl : lv_has ls 7 [(0, .ref (ad 0)), (1, .int x1), (2, .int x2), (3, .int x3)] := hl
  have hK0 : (r, fz) = (r, fz) := rfl
  obtain ⟨res, hres, hK⟩ : ∃ res, p_X7_buysBy f x1 x2 x3 = some res ∧ res = (r, fz) := ⟨_, hf, rfl⟩
  clear hf
  have hf := hres
  clear hres
  unfold p_X7_buysBy at hf
  refine lv_iload_n hx hb dX7_buysBy_0 rfl (lv_at hl 3 rfl) ?_
  refine lv_bipush (v := (nI 100)) hx hb dX7_buysBy_1 (bi_100) ?_
  refine lv_idiv hx hb dX7_buysBy_3 (by decide) ?_
  refine lv_istore (lv' := [(4, .int (x3 / (nI 100))), (0, .ref (ad 0)), (1, .int x1), (2, .int x2), (3, .int x3)]) hx hb dX7_buysBy_4 hl (by decide) rfl (fun ls hl => ?_)
  refine lv_iload_n hx hb dX7_buysBy_6 rfl (lv_at hl 4 rfl) ?_
  refine lv_bipush (v := (nI 10)) hx hb dX7_buysBy_7 (bi_10) ?_
  refine lv_idiv hx hb dX7_buysBy_9 (by decide) ?_
  refine lv_bipush (v := (nI 10)) hx hb dX7_buysBy_10 (bi_10) ?_
  refine lv_irem hx hb dX7_buysBy_12 (by decide) ?_
  refine lv_istore (lv' := [(5, .int ((x3 / (nI 10)) - (x3 / (nI 10)) / (nI 10) * (nI 10))), (4, .int (x3 / (nI 100))), (0, .ref (ad 0)), (1, .int x1), (2, .int x2), (3, .int x3)]) hx hb dX7_buysBy_13 hl (by decide) rfl (fun ls hl => ?_)
  refine lv_iload_n hx hb dX7_buysBy_15 rfl (lv_at hl 5 rfl) ?_
  refine lv_bipush (v := (nI 10)) hx hb dX7_buysBy_16 (bi_10) ?_
  refine lv_irem hx hb dX7_buysBy_18 (by decide) ?_
  refine lv_istore (lv' := [(6, .int (x3 - x3 / (nI 10) * (nI 10))), (5, .int ((x3 / (nI 10)) - (x3 / (nI 10)) / (nI 10) * (nI 10))), (4, .int (x3 / (nI 100))), (0, .ref (ad 0)), (1, .int x1), (2, .int x2), (3, .int x3)]) hx hb dX7_buysBy_19 hl (by decide) rfl (fun ls hl => ?_)
  refine lv_aload_n hx hb dX7_buysBy_21 rfl (lv_at hl 3 rfl) ?_
  refine lv_iload_n hx hb dX7_buysBy_22 rfl (lv_at hl 5 rfl) ?_
  refine lv_iload hx hb dX7_buysBy_23 (lv_at hl 2 rfl) ?_
  refine lv_iload hx hb dX7_buysBy_25 (lv_at hl 1 rfl) ?_
  refine lv_iload hx hb dX7_buysBy_27 (lv_at hl 0 rfl) ?_
  obtain ⟨r29, hc29, hf⟩ := bd_e hf
  refine cl_z_same (Wd := (wX7 G ad f)) (W' := (wX7 G ad f)) (va_runV (As := [.int x2, .int (x3 / (nI 100)), .int ((x3 / (nI 10)) - (x3 / (nI 10)) / (nI 10) * (nI 10)), .int (x3 - x3 / (nI 10) * (nI 10))]) (rest := []) hC (c_X7_isTrade l G ad f x2 (x3 / (nI 100)) ((x3 / (nI 10)) - (x3 / (nI 10)) / (nI 10) * (nI 10)) (x3 - x3 / (nI 10) * (nI 10)) r29 hc29 _) (cwV 4 hts gX7_buysBy_X7_isTrade rfl rfl rfl (by decide +kernel) ⟨Nat.le_of_ble_eq_true rfl, Nat.le_of_ble_eq_true rfl⟩) ⟨Pc0_blind, va_recv hT hP (q0 := 0) (ci := 7) rfl rfl, fun U hU hW => Pc0_at hE hP hD hU hW⟩ rfl rfl hl.1 rfl (lv_room (Nat.le_of_ble_eq_true rfl)) dX7_buysBy_29 ⟨Nat.zero_le _, Nat.zero_le _⟩) hS hA hD (fun H locs hn29 hP hD hS => ?_)
  refine lv_if_eq (tgt := 54) hx hb dX7_buysBy_32 (by decide) (fun hc => ?_) (fun hc => ?_)
  · have hf := if_t hf hc
    refine lv_iconst (v := (nI 0)) hx hb dX7_buysBy_54 (ic_0) ?_
    have hK9 := K0_of hf hK
    exact hRet (nI 0) f _ _ _ _ hK9 rfl dX7_buysBy_55 hP hD hS
  · have hf := if_f hf hc
    refine lv_aload_n hx hb dX7_buysBy_35 rfl (lv_at hl 3 rfl) ?_
    refine lv_iload_n hx hb dX7_buysBy_36 rfl (lv_at hl 4 rfl) ?_
    refine lv_iload_n hx hb dX7_buysBy_37 rfl (lv_at hl 5 rfl) ?_
    refine lv_iload hx hb dX7_buysBy_38 (lv_at hl 2 rfl) ?_
    refine lv_iload hx hb dX7_buysBy_40 (lv_at hl 1 rfl) ?_
    refine lv_iload hx hb dX7_buysBy_42 (lv_at hl 0 rfl) ?_
    obtain ⟨⟨r44, f_44⟩, hc44, hf⟩ := bd_e hf
    try dsimp only at hf
    refine cl_z_same (Wd := (wX7 G ad f)) (W' := (wX7 G ad f_44)) (va_runV (As := [.int x1, .int x2, .int (x3 / (nI 100)), .int ((x3 / (nI 10)) - (x3 / (nI 10)) / (nI 10) * (nI 10)), .int (x3 - x3 / (nI 10) * (nI 10))]) (rest := []) hC (c_X7_buysOn l G ad f x1 x2 (x3 / (nI 100)) ((x3 / (nI 10)) - (x3 / (nI 10)) / (nI 10) * (nI 10)) (x3 - x3 / (nI 10) * (nI 10)) r44 f_44 hc44 _) (cwV 5 hts gX7_buysBy_X7_buysOn rfl rfl rfl (by decide +kernel) ⟨Nat.le_of_ble_eq_true rfl, Nat.le_of_ble_eq_true rfl⟩) ⟨Pc0_blind, va_recv hT hP (q0 := 0) (ci := 7) rfl rfl, fun U hU hW => Pc0_at hE hP hD hU hW⟩ rfl rfl hl.1 rfl (lv_room (Nat.le_of_ble_eq_true rfl)) dX7_buysBy_44 ⟨Nat.zero_le _, Nat.zero_le _⟩) hS hA hD (fun H locs hn44 hP hD hS => ?_)
    refine lv_if_eq (tgt := 54) hx hb dX7_buysBy_47 (by decide) (fun hc => ?_) (fun hc => ?_)
    · have hf := if_t hf hc
      refine lv_iconst (v := (nI 0)) hx hb dX7_buysBy_54 (ic_0) ?_
      have hK9 := K0_of hf hK
      exact hRet (nI 0) f_44 _ _ _ _ hK9 rfl dX7_buysBy_55 hP hD hS
    · have hf := if_f hf hc
      refine lv_iconst (v := (nI 1)) hx hb dX7_buysBy_50 (ic_1) ?_
      refine lv_goto (tgt := 55) hx hb dX7_buysBy_51 (by decide) ?_
      have hK9 := K0_of hf hK
      exact hRet (nI 1) f_44 _ _ _ _ hK9 rfl dX7_buysBy_55 hP hD hS
noncomputable def p_X7_rowsOf_L49 (x1 : Int32) (x2 : Int32) (x3 : Int32) (z : Int32 × Mem) : Option ((Int32 × Mem) ⊕ Mem) :=
  match z with
  | (x4, f_) =>
    if (nI 500) ≤ x4 then
      (some (Sum.inr f_))
    else
      (if x2 = (nI 2) then
         (Option.bind (p_X7_copies f_ (nI 300) (nI 240)) <| fun f_69 =>
          Option.bind (p_X7_buysBy f_69 (nI 240) x1 x4) <| fun (r79, f_79) =>
          if r79 = 0 then
            (some (Sum.inl ((x4 + nI 1), f_79)))
          else
            (Option.bind (p_X7_compares f_79 (nI 240) x1 (nI 2) x3 x4) <| fun f_94 =>
             some (Sum.inl ((x4 + nI 1), f_94))))
       else
         (some (Sum.inr f_)))
noncomputable def p_X7_rowsOf_B46 (f_ : Mem) (x1 : Int32) (x2 : Int32) (x3 : Int32) : Option ((Int32 × Mem) ⊕ Mem) :=
  Option.bind (lp (p_X7_rowsOf_L49 x1 x2 x3) ((nI 0), f_)) <| fun f_49 =>
  some (Sum.inl ((x3 + nI 1), f_49))
noncomputable def p_X7_rowsOf_L2 (x1 : Int32) (x2 : Int32) (z : Int32 × Mem) : Option ((Int32 × Mem) ⊕ Mem) :=
  match z with
  | (x3, f_) =>
    if (nI 500) ≤ x3 then
      (some (Sum.inr f_))
    else
      (Option.bind (p_X7_copies f_ (nI 0) (nI 300)) <| fun f_14 =>
       Option.bind (p_X7_buysBy f_14 (nI 300) x1 x3) <| fun (r23, f_23) =>
       if r23 = 0 then
         (some (Sum.inl ((x3 + nI 1), f_23)))
       else
         (if x2 = (nI 1) then
            (Option.bind (p_X7_compares f_23 (nI 300) x1 (nI 1) x3 (-4 : Int32)) <| fun f_43 =>
             p_X7_rowsOf_B46 f_43 x1 x2 x3)
          else
            (p_X7_rowsOf_B46 f_23 x1 x2 x3)))
noncomputable def p_X7_rowsOf (f : Mem) (x1 : Int32) (x2 : Int32) : Option (Mem) :=
  Option.bind (lp (p_X7_rowsOf_L2 x1 x2) ((nI 0), f)) <| fun f_2 =>
  some f_2
set_option maxHeartbeats 4000000 in
set_option maxRecDepth 100000 in
theorem c_X7_rowsOf (l : Launch) (G : Gt) (ad : Nat → Nat) (f : Mem) (x1 : Int32) (x2 : Int32) (fz : Mem) (hf : p_X7_rowsOf f x1 x2 = some fz) (sz : Nat) : Met l yX7_rowsOf wsX7_rowsOf ({ frames := 6, cells := 0, slots := 0, locals := 135 }) (Pc0 G sz [.ref (ad 0), .int x1, .int x2] (wX7 G ad f)) (Qv0 G (va_A (wX7 G ad f) sz) (wX7 G ad fz)) 0 0 (va_A (wX7 G ad f) sz) := by
  refine metP (Qf := fun A => Qv0 G A (wX7 G ad fz)) cX7_rowsOf 5 (none) (by decide) rfl (Nat.le_of_ble_eq_true rfl) ?_
  intro p e s m below meth c A ls hC hr hlocks hin hE hA hsz hP hD hS hl
  generalize hargs : ([.ref (ad 0), .int x1, .int x2] : List Value).toArray = args at hC ⊢
  obtain ⟨hx, hb, hml, hown, hts⟩ := id hC
  have hT : va_K G.1 vwCl (tyL G) s := hE.1
  have hRet : ∀ (f9 : Mem) (H : Heap) (locs : List Loc) (ls : Array Slot) (pc : Nat) (hK9 : f9 = fz) (hdg : decode cX7_rowsOf pc = .ok (.return_, 1)), va_P G.1 vwCl (wX7 G ad f9) H → va_D A (wX7 G ad f9) → va_S A s.heap H locs → W p l e ({ frames := 6, cells := 0, slots := 0, locals := 135 }) s m args below meth c H locs 0 0 (MQ below (Qv0 G A (wX7 G ad fz)) args s 0 0 A) (F0 m pc ls []) := by
    intro f9 H locs ls pc hK9 hdg hP hD hS
    cases hK9
    exact W.vret hx hb hr (fun t ht hW => ⟨⟨(), rfl, trivial, by rw [ht]; exact hP, hD⟩, hS.F ht⟩) hS.2.2 hdg hlocks
  generalize MQ below (Qv0 G A (wX7 G ad fz)) args s 0 0 A = Q at hRet ⊢
  have hl : lv_has ls 5 [(0, .ref (ad 0)), (1, .int x1), (2, .int x2)] := hl
  have hK0 : fz = fz := rfl
  obtain ⟨res, hres, hK⟩ : ∃ res, p_X7_rowsOf f x1 x2 = some res ∧ res = fz := ⟨_, hf, rfl⟩
  clear hf
  have hf := hres
  clear hres
  unfold p_X7_rowsOf at hf
  refine lv_iconst (v := (nI 0)) hx hb dX7_rowsOf_0 (ic_0) ?_
  refine lv_istore_n (lv' := [(3, .int (nI 0)), (0, .ref (ad 0)), (1, .int x1), (2, .int x2)]) hx hb dX7_rowsOf_1 rfl hl (by decide) rfl (fun ls hl => ?_)
  obtain ⟨f_2, hlp, hf⟩ := bd_e hf
  refine lp_W1 (p_X7_rowsOf_L2 x1 x2) (fun z => match z with | (x3, f_) => ∀ (H : Heap) (locs : List Loc) (ls : Array Slot), va_P G.1 vwCl (wX7 G ad f_) H → va_D A (wX7 G ad f_) → va_S A s.heap H locs → lv_has ls 5 [(0, .ref (ad 0)), (1, .int x1), (2, .int x2), (3, .int x3)] → W p l e ({ frames := 6, cells := 0, slots := 0, locals := 135 }) s m args below meth c H locs 0 0 Q (F0 m 2 ls [])) (fun (f_2 : Mem) => ∀ (H : Heap) (locs : List Loc) (ls : Array Slot), va_P G.1 vwCl (wX7 G ad f_2) H → va_D A (wX7 G ad f_2) → va_S A s.heap H locs → lv_has ls 5 [] → W p l e ({ frames := 6, cells := 0, slots := 0, locals := 135 }) s m args below meth c H locs 0 0 Q (F0 m 109 ls [])) ?_ hlp ?_ _ _ _ hP hD hS (lv_sub hl [1, 2, 3, 0] rfl)
  · clear hlp hf hK hP hD hS hl
    intro K2 hW2 hX2 
    have hB46 : ∀ (f_ : Mem) (x3 : Int32) (res : (Int32 × Mem) ⊕ Mem) (hf : p_X7_rowsOf_B46 f_ x1 x2 x3 = some res) (hK : K2 res), ∀ (H : Heap) (locs : List Loc) (ls : Array Slot), va_P G.1 vwCl (wX7 G ad f_) H → va_D A (wX7 G ad f_) → va_S A s.heap H locs → lv_has ls 5 [(0, .ref (ad 0)), (1, .int x1), (2, .int x2), (3, .int x3)] → W p l e ({ frames := 6, cells := 0, slots := 0, locals := 135 }) s m args below meth c H locs 0 0 Q (F0 m 46 ls []) := by
      intro f_ x3 res hf hK H locs ls hP hD hS hl
      unfold p_X7_rowsOf_B46 at hf
      refine lv_iconst (v := (nI 0)) hx hb dX7_rowsOf_46 (ic_0) ?_
      refine lv_istore (lv' := [(4, .int (nI 0)), (0, .ref (ad 0)), (1, .int x1), (2, .int x2), (3, .int x3)]) hx hb dX7_rowsOf_47 hl (by decide) rfl (fun ls hl => ?_)
      obtain ⟨f_49, hlp, hf⟩ := bd_e hf
      refine lp_W1 (p_X7_rowsOf_L49 x1 x2 x3) (fun z => match z with | (x4, f_) => ∀ (H : Heap) (locs : List Loc) (ls : Array Slot), va_P G.1 vwCl (wX7 G ad f_) H → va_D A (wX7 G ad f_) → va_S A s.heap H locs → lv_has ls 5 [(0, .ref (ad 0)), (1, .int x1), (2, .int x2), (3, .int x3), (4, .int x4)] → W p l e ({ frames := 6, cells := 0, slots := 0, locals := 135 }) s m args below meth c H locs 0 0 Q (F0 m 49 ls [])) (fun (f_49 : Mem) => ∀ (H : Heap) (locs : List Loc) (ls : Array Slot), va_P G.1 vwCl (wX7 G ad f_49) H → va_D A (wX7 G ad f_49) → va_S A s.heap H locs → lv_has ls 5 [(0, .ref (ad 0)), (1, .int x1), (2, .int x2), (3, .int x3)] → W p l e ({ frames := 6, cells := 0, slots := 0, locals := 135 }) s m args below meth c H locs 0 0 Q (F0 m 103 ls [])) ?_ hlp ?_ _ _ _ hP hD hS (lv_sub hl [1, 2, 3, 4, 0] rfl)
      · clear hlp hf hK hP hD hS hl
        intro K49 hW49 hX49 
        rintro ⟨x4, f_⟩ res hf hK H locs ls hP hD hS hl
        unfold p_X7_rowsOf_L49 at hf
        dsimp only at hf
        refine lv_iload hx hb dX7_rowsOf_49 (lv_at hl 4 rfl) ?_
        refine lv_sipush (v := (nI 500)) hx hb dX7_rowsOf_51 (si_500) ?_
        refine lv_icmp_ge (tgt := 103) hx hb dX7_rowsOf_54 (by decide) (fun hc => ?_) (fun hc => ?_)
        · have hf := if_t hf hc
          have hK9 := K_of hf hK
          have hK9 := hX49 _ hK9
          exact hK9 _ _ _ hP hD hS (lv_sub hl [0, 1, 2, 3] rfl)
        · have hf := if_f hf hc
          refine lv_iload_n hx hb dX7_rowsOf_57 rfl (lv_at hl 2 rfl) ?_
          refine lv_iconst (v := (nI 2)) hx hb dX7_rowsOf_58 (ic_2) ?_
          refine lv_icmp_ne (tgt := 103) hx hb dX7_rowsOf_59 (by decide) (fun hc => ?_) (fun hc => ?_)
          · have hf := if_f hf hc
            have hK9 := K_of hf hK
            have hK9 := hX49 _ hK9
            exact hK9 _ _ _ hP hD hS (lv_sub hl [0, 1, 2, 3] rfl)
          · have hf := if_t hf hc
            refine lv_aload_n hx hb dX7_rowsOf_62 rfl (lv_at hl 0 rfl) ?_
            refine lv_sipush (v := (nI 300)) hx hb dX7_rowsOf_63 (si_300) ?_
            refine lv_sipush (v := (nI 240)) hx hb dX7_rowsOf_66 (si_240) ?_
            obtain ⟨f_69, hc69, hf⟩ := bd_e hf
            refine cl_v_same (Wd := (wX7 G ad f_)) (W' := (wX7 G ad f_69)) (va_runV (As := [.int (nI 300), .int (nI 240)]) (rest := []) hC (c_X7_copies l G ad f_ (nI 300) (nI 240) f_69 hc69 _) (cwV 2 hts gX7_rowsOf_X7_copies rfl rfl rfl (by decide +kernel) ⟨Nat.le_of_ble_eq_true rfl, Nat.le_of_ble_eq_true rfl⟩) ⟨Pc0_blind, va_recv hT hP (q0 := 0) (ci := 7) rfl rfl, fun U hU hW => Pc0_at hE hP hD hU hW⟩ rfl rfl hl.1 rfl (lv_room (Nat.le_of_ble_eq_true rfl)) dX7_rowsOf_69 ⟨Nat.zero_le _, Nat.zero_le _⟩) hS hA hD (fun H locs hP hD hS => ?_)
            refine lv_aload_n hx hb dX7_rowsOf_72 rfl (lv_at hl 0 rfl) ?_
            refine lv_sipush (v := (nI 240)) hx hb dX7_rowsOf_73 (si_240) ?_
            refine lv_iload_n hx hb dX7_rowsOf_76 rfl (lv_at hl 1 rfl) ?_
            refine lv_iload hx hb dX7_rowsOf_77 (lv_at hl 4 rfl) ?_
            obtain ⟨⟨r79, f_79⟩, hc79, hf⟩ := bd_e hf
            try dsimp only at hf
            refine cl_z_same (Wd := (wX7 G ad f_69)) (W' := (wX7 G ad f_79)) (va_runV (As := [.int (nI 240), .int x1, .int x4]) (rest := []) hC (c_X7_buysBy l G ad f_69 (nI 240) x1 x4 r79 f_79 hc79 _) (cwV 3 hts gX7_rowsOf_X7_buysBy rfl rfl rfl (by decide +kernel) ⟨Nat.le_of_ble_eq_true rfl, Nat.le_of_ble_eq_true rfl⟩) ⟨Pc0_blind, va_recv hT hP (q0 := 0) (ci := 7) rfl rfl, fun U hU hW => Pc0_at hE hP hD hU hW⟩ rfl rfl hl.1 rfl (lv_room (Nat.le_of_ble_eq_true rfl)) dX7_rowsOf_79 ⟨Nat.zero_le _, Nat.zero_le _⟩) hS hA hD (fun H locs hn79 hP hD hS => ?_)
            refine lv_if_eq (tgt := 97) hx hb dX7_rowsOf_82 (by decide) (fun hc => ?_) (fun hc => ?_)
            · have hf := if_t hf hc
              refine lv_iinc (v := (x4 + nI 1)) (lv' := [(4, .int (x4 + nI 1)), (0, .ref (ad 0)), (1, .int x1), (2, .int x2), (3, .int x3)]) hx hb dX7_rowsOf_97 hl (k := 4) rfl (ii_x 1 _) (by decide) rfl (fun ls hl => ?_)
              refine lv_goto (tgt := 49) hx hb dX7_rowsOf_100 (by decide) ?_
              have hK9 := K_of hf hK
              have hK9 := hW49 _ hK9
              exact hK9 _ _ _ hP hD hS (lv_sub hl [1, 2, 3, 4, 0] rfl)
            · have hf := if_f hf hc
              refine lv_aload_n hx hb dX7_rowsOf_85 rfl (lv_at hl 0 rfl) ?_
              refine lv_sipush (v := (nI 240)) hx hb dX7_rowsOf_86 (si_240) ?_
              refine lv_iload_n hx hb dX7_rowsOf_89 rfl (lv_at hl 1 rfl) ?_
              refine lv_iconst (v := (nI 2)) hx hb dX7_rowsOf_90 (ic_2) ?_
              refine lv_iload_n hx hb dX7_rowsOf_91 rfl (lv_at hl 3 rfl) ?_
              refine lv_iload hx hb dX7_rowsOf_92 (lv_at hl 4 rfl) ?_
              obtain ⟨f_94, hc94, hf⟩ := bd_e hf
              refine cl_v_same (Wd := (wX7 G ad f_79)) (W' := (wX7 G ad f_94)) (va_runV (As := [.int (nI 240), .int x1, .int (nI 2), .int x3, .int x4]) (rest := []) hC (c_X7_compares l G ad f_79 (nI 240) x1 (nI 2) x3 x4 f_94 hc94 _) (cwV 5 hts gX7_rowsOf_X7_compares rfl rfl rfl (by decide +kernel) ⟨Nat.le_of_ble_eq_true rfl, Nat.le_of_ble_eq_true rfl⟩) ⟨Pc0_blind, va_recv hT hP (q0 := 0) (ci := 7) rfl rfl, fun U hU hW => Pc0_at hE hP hD hU hW⟩ rfl rfl hl.1 rfl (lv_room (Nat.le_of_ble_eq_true rfl)) dX7_rowsOf_94 ⟨Nat.zero_le _, Nat.zero_le _⟩) hS hA hD (fun H locs hP hD hS => ?_)
              refine lv_iinc (v := (x4 + nI 1)) (lv' := [(4, .int (x4 + nI 1)), (0, .ref (ad 0)), (1, .int x1), (2, .int x2), (3, .int x3)]) hx hb dX7_rowsOf_97 hl (k := 4) rfl (ii_x 1 _) (by decide) rfl (fun ls hl => ?_)
              refine lv_goto (tgt := 49) hx hb dX7_rowsOf_100 (by decide) ?_
              have hK9 := K_of hf hK
              have hK9 := hW49 _ hK9
              exact hK9 _ _ _ hP hD hS (lv_sub hl [1, 2, 3, 4, 0] rfl)
      · try dsimp only at hf
        show ∀ (H : Heap) (locs : List Loc) (ls : Array Slot), va_P G.1 vwCl (wX7 G ad f_49) H → va_D A (wX7 G ad f_49) → va_S A s.heap H locs → lv_has ls 5 [(0, .ref (ad 0)), (1, .int x1), (2, .int x2), (3, .int x3)] → W p l e ({ frames := 6, cells := 0, slots := 0, locals := 135 }) s m args below meth c H locs 0 0 Q (F0 m 103 ls [])
        intro H locs ls hP hD hS hl
        refine lv_iinc (v := (x3 + nI 1)) (lv' := [(3, .int (x3 + nI 1)), (0, .ref (ad 0)), (1, .int x1), (2, .int x2)]) hx hb dX7_rowsOf_103 hl (k := 3) rfl (ii_x 1 _) (by decide) rfl (fun ls hl => ?_)
        refine lv_goto (tgt := 2) hx hb dX7_rowsOf_106 (by decide) ?_
        have hK9 := K_of hf hK
        have hK9 := hW2 _ hK9
        exact hK9 _ _ _ hP hD hS (lv_sub hl [1, 2, 3, 0] rfl)
    rintro ⟨x3, f_⟩ res hf hK H locs ls hP hD hS hl
    unfold p_X7_rowsOf_L2 at hf
    dsimp only at hf
    refine lv_iload_n hx hb dX7_rowsOf_2 rfl (lv_at hl 3 rfl) ?_
    refine lv_sipush (v := (nI 500)) hx hb dX7_rowsOf_3 (si_500) ?_
    refine lv_icmp_ge (tgt := 109) hx hb dX7_rowsOf_6 (by decide) (fun hc => ?_) (fun hc => ?_)
    · have hf := if_t hf hc
      have hK9 := K_of hf hK
      have hK9 := hX2 _ hK9
      exact hK9 _ _ _ hP hD hS (lv_sub hl [] rfl)
    · have hf := if_f hf hc
      refine lv_aload_n hx hb dX7_rowsOf_9 rfl (lv_at hl 0 rfl) ?_
      refine lv_iconst (v := (nI 0)) hx hb dX7_rowsOf_10 (ic_0) ?_
      refine lv_sipush (v := (nI 300)) hx hb dX7_rowsOf_11 (si_300) ?_
      obtain ⟨f_14, hc14, hf⟩ := bd_e hf
      refine cl_v_same (Wd := (wX7 G ad f_)) (W' := (wX7 G ad f_14)) (va_runV (As := [.int (nI 0), .int (nI 300)]) (rest := []) hC (c_X7_copies l G ad f_ (nI 0) (nI 300) f_14 hc14 _) (cwV 2 hts gX7_rowsOf_X7_copies rfl rfl rfl (by decide +kernel) ⟨Nat.le_of_ble_eq_true rfl, Nat.le_of_ble_eq_true rfl⟩) ⟨Pc0_blind, va_recv hT hP (q0 := 0) (ci := 7) rfl rfl, fun U hU hW => Pc0_at hE hP hD hU hW⟩ rfl rfl hl.1 rfl (lv_room (Nat.le_of_ble_eq_true rfl)) dX7_rowsOf_14 ⟨Nat.zero_le _, Nat.zero_le _⟩) hS hA hD (fun H locs hP hD hS => ?_)
      refine lv_aload_n hx hb dX7_rowsOf_17 rfl (lv_at hl 0 rfl) ?_
      refine lv_sipush (v := (nI 300)) hx hb dX7_rowsOf_18 (si_300) ?_
      refine lv_iload_n hx hb dX7_rowsOf_21 rfl (lv_at hl 1 rfl) ?_
      refine lv_iload_n hx hb dX7_rowsOf_22 rfl (lv_at hl 3 rfl) ?_
      obtain ⟨⟨r23, f_23⟩, hc23, hf⟩ := bd_e hf
      try dsimp only at hf
      refine cl_z_same (Wd := (wX7 G ad f_14)) (W' := (wX7 G ad f_23)) (va_runV (As := [.int (nI 300), .int x1, .int x3]) (rest := []) hC (c_X7_buysBy l G ad f_14 (nI 300) x1 x3 r23 f_23 hc23 _) (cwV 3 hts gX7_rowsOf_X7_buysBy rfl rfl rfl (by decide +kernel) ⟨Nat.le_of_ble_eq_true rfl, Nat.le_of_ble_eq_true rfl⟩) ⟨Pc0_blind, va_recv hT hP (q0 := 0) (ci := 7) rfl rfl, fun U hU hW => Pc0_at hE hP hD hU hW⟩ rfl rfl hl.1 rfl (lv_room (Nat.le_of_ble_eq_true rfl)) dX7_rowsOf_23 ⟨Nat.zero_le _, Nat.zero_le _⟩) hS hA hD (fun H locs hn23 hP hD hS => ?_)
      refine lv_if_eq (tgt := 103) hx hb dX7_rowsOf_26 (by decide) (fun hc => ?_) (fun hc => ?_)
      · have hf := if_t hf hc
        refine lv_iinc (v := (x3 + nI 1)) (lv' := [(3, .int (x3 + nI 1)), (0, .ref (ad 0)), (1, .int x1), (2, .int x2)]) hx hb dX7_rowsOf_103 hl (k := 3) rfl (ii_x 1 _) (by decide) rfl (fun ls hl => ?_)
        refine lv_goto (tgt := 2) hx hb dX7_rowsOf_106 (by decide) ?_
        have hK9 := K_of hf hK
        have hK9 := hW2 _ hK9
        exact hK9 _ _ _ hP hD hS (lv_sub hl [1, 2, 3, 0] rfl)
      · have hf := if_f hf hc
        refine lv_iload_n hx hb dX7_rowsOf_29 rfl (lv_at hl 2 rfl) ?_
        refine lv_iconst (v := (nI 1)) hx hb dX7_rowsOf_30 (ic_1) ?_
        refine lv_icmp_ne (tgt := 46) hx hb dX7_rowsOf_31 (by decide) (fun hc => ?_) (fun hc => ?_)
        · have hf := if_f hf hc
          exact hB46 f_23 x3 _ hf hK _ _ _ hP hD hS (lv_sub hl [0, 1, 2, 3] rfl)
        · have hf := if_t hf hc
          refine lv_aload_n hx hb dX7_rowsOf_34 rfl (lv_at hl 0 rfl) ?_
          refine lv_sipush (v := (nI 300)) hx hb dX7_rowsOf_35 (si_300) ?_
          refine lv_iload_n hx hb dX7_rowsOf_38 rfl (lv_at hl 1 rfl) ?_
          refine lv_iconst (v := (nI 1)) hx hb dX7_rowsOf_39 (ic_1) ?_
          refine lv_iload_n hx hb dX7_rowsOf_40 rfl (lv_at hl 3 rfl) ?_
          refine lv_bipush (v := (-4 : Int32)) hx hb dX7_rowsOf_41 (bi_m4) ?_
          obtain ⟨f_43, hc43, hf⟩ := bd_e hf
          refine cl_v_same (Wd := (wX7 G ad f_23)) (W' := (wX7 G ad f_43)) (va_runV (As := [.int (nI 300), .int x1, .int (nI 1), .int x3, .int (-4 : Int32)]) (rest := []) hC (c_X7_compares l G ad f_23 (nI 300) x1 (nI 1) x3 (-4 : Int32) f_43 hc43 _) (cwV 5 hts gX7_rowsOf_X7_compares rfl rfl rfl (by decide +kernel) ⟨Nat.le_of_ble_eq_true rfl, Nat.le_of_ble_eq_true rfl⟩) ⟨Pc0_blind, va_recv hT hP (q0 := 0) (ci := 7) rfl rfl, fun U hU hW => Pc0_at hE hP hD hU hW⟩ rfl rfl hl.1 rfl (lv_room (Nat.le_of_ble_eq_true rfl)) dX7_rowsOf_43 ⟨Nat.zero_le _, Nat.zero_le _⟩) hS hA hD (fun H locs hP hD hS => ?_)
          exact hB46 f_43 x3 _ hf hK _ _ _ hP hD hS (lv_sub hl [0, 1, 2, 3] rfl)
  · try dsimp only at hf
    show ∀ (H : Heap) (locs : List Loc) (ls : Array Slot), va_P G.1 vwCl (wX7 G ad f_2) H → va_D A (wX7 G ad f_2) → va_S A s.heap H locs → lv_has ls 5 [] → W p l e ({ frames := 6, cells := 0, slots := 0, locals := 135 }) s m args below meth c H locs 0 0 Q (F0 m 109 ls [])
    intro H locs ls hP hD hS hl
    have hK9 := K0_of hf hK
    exact hRet f_2 _ _ _ _ hK9 dX7_rowsOf_109 hP hD hS
noncomputable def p_X7_best_L66 (x1 : Int32) (x2 : Int32) (x3 : Int32) (z : Int32 × Mem) : Option ((Int32 × Mem) ⊕ Mem) :=
  match z with
  | (x4, f_) =>
    if x2 < x4 then
      (some (Sum.inr f_))
    else
      (Option.bind (p_X7_rowsOf f_ x1 x4) <| fun f_76 =>
       some (Sum.inl ((x4 + nI 1), f_76)))
noncomputable def p_X7_best_B47 (f : Mem) (x1 : Int32) (x2 : Int32) (x3 : Int32) : Option (Int32 × Mem) :=
  Option.bind (p_X7_compares (mset 0 16 (-1 : Int32) f) (nI 0) x1 (nI 0) (-4 : Int32) (-4 : Int32)) <| fun f_60 =>
  Option.bind (lp (p_X7_best_L66 x1 x2 x3) ((nI 1), f_60)) <| fun f_66 =>
  if x3 = 0 then
    (some ((f_66 0 16), f_66))
  else
    (if x3 = (nI 1) then
       (some ((f_66 0 17), f_66))
     else
       (if x3 = (nI 2) then
          (some ((f_66 0 18), f_66))
        else
          (if x3 = (nI 10) then
             (some ((f_66 0 19), f_66))
           else
             (some ((f_66 0 20), f_66)))))
noncomputable def p_X7_best (f : Mem) (x1 : Int32) (x2 : Int32) (x3 : Int32) : Option (Int32 × Mem) :=
  Option.bind (p_X7_isOwner x1) <| fun r1 =>
  if r1 = 0 then
    (some ((-1 : Int32), f))
  else
    (Option.bind (p_X7_in ((x2).toInt64) (lN 0) (2 : Int64)) <| fun r13 =>
     if r13 = 0 then
       (some ((-1 : Int32), f))
     else
       (Option.bind (p_X7_in ((x3).toInt64) (lN 0) (2 : Int64)) <| fun r25 =>
        if r25 = 0 then
          (Option.bind (p_X7_in ((x3).toInt64) (10 : Int64) (11 : Int64)) <| fun r39 =>
           if r39 = 0 then
             (some ((-1 : Int32), f))
           else
             (p_X7_best_B47 f x1 x2 x3))
        else
          (p_X7_best_B47 f x1 x2 x3)))
set_option maxHeartbeats 4000000 in
set_option maxRecDepth 100000 in
theorem c_X7_best (l : Launch) (G : Gt) (ad : Nat → Nat) (f : Mem) (x1 : Int32) (x2 : Int32) (x3 : Int32) (r : Int32) (fz : Mem) (hf : p_X7_best f x1 x2 x3 = some (r, fz)) (sz : Nat) : Met l yX7_best wsX7_best ({ frames := 7, cells := 0, slots := 0, locals := 159 }) (Pc0 G sz [.ref (ad 0), .int x1, .int x2, .int x3] (wX7 G ad f)) (Qi0 G (va_A (wX7 G ad f) sz) r (wX7 G ad fz)) 0 0 (va_A (wX7 G ad f) sz) := by
  refine metP (Qf := fun A => Qi0 G A r (wX7 G ad fz)) cX7_best 5 (some .int) (by decide) rfl (Nat.le_of_ble_eq_true rfl) ?_
  intro p e s m below meth c A ls hC hr hlocks hin hE hA hsz hP hD hS hl
  generalize hargs : ([.ref (ad 0), .int x1, .int x2, .int x3] : List Value).toArray = args at hC ⊢
  obtain ⟨hx, hb, hml, hown, hts⟩ := id hC
  have hT : va_K G.1 vwCl (tyL G) s := hE.1
  have hRet : ∀ (r9 : Int32) (f9 : Mem) (H : Heap) (locs : List Loc) (ls : Array Slot) (pc : Nat) (hK9 : (r9, f9) = (r, fz)) (hdg : decode cX7_best pc = .ok (.ireturn, 1)), va_P G.1 vwCl (wX7 G ad f9) H → va_D A (wX7 G ad f9) → va_S A s.heap H locs → W p l e ({ frames := 7, cells := 0, slots := 0, locals := 159 }) s m args below meth c H locs 0 0 (MQ below (Qi0 G A r (wX7 G ad fz)) args s 0 0 A) (F0 m pc ls [.int r9]) := by
    intro r9 f9 H locs ls pc hK9 hdg hP hD hS
    cases hK9
    exact W.iret hx hb hr (fun t ht hW => ⟨⟨r, (), rfl, rfl, by rw [ht]; exact hP, hD⟩, hS.F ht⟩) hS.2.2 hdg hlocks
  generalize MQ below (Qi0 G A r (wX7 G ad fz)) args s 0 0 A = Q at hRet ⊢
  have lk232 := hts (.fieldLink RX7 232 "FeatherSharesModel" "bestGeese" "I") (by decide +kernel)
  have inX7 : ∀ w ∈ u_ws RX7 TX7 34, w ∈ wsX7_best := by decide +kernel
  have lk244 := hts (.fieldLink RX7 244 "FeatherSharesModel" "bestSecond" "I") (by decide +kernel)
  have lk241 := hts (.fieldLink RX7 241 "FeatherSharesModel" "bestFirst" "I") (by decide +kernel)
  have lk238 := hts (.fieldLink RX7 238 "FeatherSharesModel" "bestMany" "I") (by decide +kernel)
  have lk235 := hts (.fieldLink RX7 235 "FeatherSharesModel" "bestMoney" "I") (by decide +kernel)
  have hl : lv_has ls 5 [(0, .ref (ad 0)), (1, .int x1), (2, .int x2), (3, .int x3)] := hl
  have hK0 : (r, fz) = (r, fz) := rfl
  have hB47 : ∀ (f : Mem) (x1 : Int32) (x2 : Int32) (x3 : Int32) (res : Int32 × Mem) (hf : p_X7_best_B47 f x1 x2 x3 = some res) (hK : res = (r, fz)), ∀ (H : Heap) (locs : List Loc) (ls : Array Slot), va_P G.1 vwCl (wX7 G ad f) H → va_D A (wX7 G ad f) → va_S A s.heap H locs → lv_has ls 5 [(0, .ref (ad 0)), (1, .int x1), (2, .int x2), (3, .int x3)] → W p l e ({ frames := 7, cells := 0, slots := 0, locals := 159 }) s m args below meth c H locs 0 0 Q (F0 m 47 ls []) := by
    intro f x1 x2 x3 res hf hK H locs ls hP hD hS hl
    unfold p_X7_best_B47 at hf
    refine lv_aload_n hx hb dX7_best_47 rfl (lv_at hl 0 rfl) ?_
    refine lv_iconst (v := (-1 : Int32)) hx hb dX7_best_48 (ic_m1) ?_
    refine va_put (C := RX7) (T := TX7) (N := 34) (ci := 7) (ty := .int) (v := .int (-1 : Int32)) hx hb hts inX7 tyX7 tyX7_ok nmX7 hown hT hP hD hS 0 rfl rfl 21 (Nat.le_of_ble_eq_true rfl) lk232 (fun _ h => h) rfl (by decide +kernel) rfl rfl (Nat.le_of_ble_eq_true rfl) dX7_best_49 (fun H locs hP hD hS => ?_)
    have hP : va_P G.1 vwCl (wX7 G ad (mset 0 16 (-1 : Int32) f)) H := hP
    have hD : va_D A (wX7 G ad (mset 0 16 (-1 : Int32) f)) := hD
    refine lv_aload_n hx hb dX7_best_52 rfl (lv_at hl 0 rfl) ?_
    refine lv_iconst (v := (nI 0)) hx hb dX7_best_53 (ic_0) ?_
    refine lv_iload_n hx hb dX7_best_54 rfl (lv_at hl 1 rfl) ?_
    refine lv_iconst (v := (nI 0)) hx hb dX7_best_55 (ic_0) ?_
    refine lv_bipush (v := (-4 : Int32)) hx hb dX7_best_56 (bi_m4) ?_
    refine lv_bipush (v := (-4 : Int32)) hx hb dX7_best_58 (bi_m4) ?_
    obtain ⟨f_60, hc60, hf⟩ := bd_e hf
    refine cl_v_same (Wd := (wX7 G ad (mset 0 16 (-1 : Int32) f))) (W' := (wX7 G ad f_60)) (va_runV (As := [.int (nI 0), .int x1, .int (nI 0), .int (-4 : Int32), .int (-4 : Int32)]) (rest := []) hC (c_X7_compares l G ad (mset 0 16 (-1 : Int32) f) (nI 0) x1 (nI 0) (-4 : Int32) (-4 : Int32) f_60 hc60 _) (cwV 5 hts gX7_best_X7_compares rfl rfl rfl (by decide +kernel) ⟨Nat.le_of_ble_eq_true rfl, Nat.le_of_ble_eq_true rfl⟩) ⟨Pc0_blind, va_recv hT hP (q0 := 0) (ci := 7) rfl rfl, fun U hU hW => Pc0_at hE hP hD hU hW⟩ rfl rfl hl.1 rfl (lv_room (Nat.le_of_ble_eq_true rfl)) dX7_best_60 ⟨Nat.zero_le _, Nat.zero_le _⟩) hS hA hD (fun H locs hP hD hS => ?_)
    refine lv_iconst (v := (nI 1)) hx hb dX7_best_63 (ic_1) ?_
    refine lv_istore (lv' := [(4, .int (nI 1)), (0, .ref (ad 0)), (1, .int x1), (2, .int x2), (3, .int x3)]) hx hb dX7_best_64 hl (by decide) rfl (fun ls hl => ?_)
    obtain ⟨f_66, hlp, hf⟩ := bd_e hf
    refine lp_W1 (p_X7_best_L66 x1 x2 x3) (fun z => match z with | (x4, f_) => ∀ (H : Heap) (locs : List Loc) (ls : Array Slot), va_P G.1 vwCl (wX7 G ad f_) H → va_D A (wX7 G ad f_) → va_S A s.heap H locs → lv_has ls 5 [(0, .ref (ad 0)), (1, .int x1), (2, .int x2), (3, .int x3), (4, .int x4)] → W p l e ({ frames := 7, cells := 0, slots := 0, locals := 159 }) s m args below meth c H locs 0 0 Q (F0 m 66 ls [])) (fun (f_66 : Mem) => ∀ (H : Heap) (locs : List Loc) (ls : Array Slot), va_P G.1 vwCl (wX7 G ad f_66) H → va_D A (wX7 G ad f_66) → va_S A s.heap H locs → lv_has ls 5 [(0, .ref (ad 0)), (3, .int x3)] → W p l e ({ frames := 7, cells := 0, slots := 0, locals := 159 }) s m args below meth c H locs 0 0 Q (F0 m 85 ls [])) ?_ hlp ?_ _ _ _ hP hD hS (lv_sub hl [1, 2, 3, 4, 0] rfl)
    · clear hlp hf hK hP hD hS hl
      intro K66 hW66 hX66 
      rintro ⟨x4, f_⟩ res hf hK H locs ls hP hD hS hl
      unfold p_X7_best_L66 at hf
      dsimp only at hf
      refine lv_iload hx hb dX7_best_66 (lv_at hl 4 rfl) ?_
      refine lv_iload_n hx hb dX7_best_68 rfl (lv_at hl 2 rfl) ?_
      refine lv_icmp_gt (tgt := 85) hx hb dX7_best_69 (by decide) (fun hc => ?_) (fun hc => ?_)
      · have hf := if_t hf hc
        have hK9 := K_of hf hK
        have hK9 := hX66 _ hK9
        exact hK9 _ _ _ hP hD hS (lv_sub hl [0, 3] rfl)
      · have hf := if_f hf hc
        refine lv_aload_n hx hb dX7_best_72 rfl (lv_at hl 0 rfl) ?_
        refine lv_iload_n hx hb dX7_best_73 rfl (lv_at hl 1 rfl) ?_
        refine lv_iload hx hb dX7_best_74 (lv_at hl 4 rfl) ?_
        obtain ⟨f_76, hc76, hf⟩ := bd_e hf
        refine cl_v_same (Wd := (wX7 G ad f_)) (W' := (wX7 G ad f_76)) (va_runV (As := [.int x1, .int x4]) (rest := []) hC (c_X7_rowsOf l G ad f_ x1 x4 f_76 hc76 _) (cwV 2 hts gX7_best_X7_rowsOf rfl rfl rfl (by decide +kernel) ⟨Nat.le_of_ble_eq_true rfl, Nat.le_of_ble_eq_true rfl⟩) ⟨Pc0_blind, va_recv hT hP (q0 := 0) (ci := 7) rfl rfl, fun U hU hW => Pc0_at hE hP hD hU hW⟩ rfl rfl hl.1 rfl (lv_room (Nat.le_of_ble_eq_true rfl)) dX7_best_76 ⟨Nat.zero_le _, Nat.zero_le _⟩) hS hA hD (fun H locs hP hD hS => ?_)
        refine lv_iinc (v := (x4 + nI 1)) (lv' := [(4, .int (x4 + nI 1)), (0, .ref (ad 0)), (1, .int x1), (2, .int x2), (3, .int x3)]) hx hb dX7_best_79 hl (k := 4) rfl (ii_x 1 _) (by decide) rfl (fun ls hl => ?_)
        refine lv_goto (tgt := 66) hx hb dX7_best_82 (by decide) ?_
        have hK9 := K_of hf hK
        have hK9 := hW66 _ hK9
        exact hK9 _ _ _ hP hD hS (lv_sub hl [1, 2, 3, 4, 0] rfl)
    · try dsimp only at hf
      show ∀ (H : Heap) (locs : List Loc) (ls : Array Slot), va_P G.1 vwCl (wX7 G ad f_66) H → va_D A (wX7 G ad f_66) → va_S A s.heap H locs → lv_has ls 5 [(0, .ref (ad 0)), (3, .int x3)] → W p l e ({ frames := 7, cells := 0, slots := 0, locals := 159 }) s m args below meth c H locs 0 0 Q (F0 m 85 ls [])
      intro H locs ls hP hD hS hl
      refine lv_iload_n hx hb dX7_best_85 rfl (lv_at hl 1 rfl) ?_
      refine lv_if_ne (tgt := 96) hx hb dX7_best_86 (by decide) (fun hc => ?_) (fun hc => ?_)
      · have hf := if_f hf hc
        refine lv_iload_n hx hb dX7_best_96 rfl (lv_at hl 1 rfl) ?_
        refine lv_iconst (v := (nI 1)) hx hb dX7_best_97 (ic_1) ?_
        refine lv_icmp_ne (tgt := 108) hx hb dX7_best_98 (by decide) (fun hc => ?_) (fun hc => ?_)
        · have hf := if_f hf hc
          refine lv_iload_n hx hb dX7_best_108 rfl (lv_at hl 1 rfl) ?_
          refine lv_iconst (v := (nI 2)) hx hb dX7_best_109 (ic_2) ?_
          refine lv_icmp_ne (tgt := 120) hx hb dX7_best_110 (by decide) (fun hc => ?_) (fun hc => ?_)
          · have hf := if_f hf hc
            refine lv_iload_n hx hb dX7_best_120 rfl (lv_at hl 1 rfl) ?_
            refine lv_bipush (v := (nI 10)) hx hb dX7_best_121 (bi_10) ?_
            refine lv_icmp_ne (tgt := 133) hx hb dX7_best_123 (by decide) (fun hc => ?_) (fun hc => ?_)
            · have hf := if_f hf hc
              refine lv_aload_n hx hb dX7_best_133 rfl (lv_at hl 0 rfl) ?_
              refine va_get (C := RX7) (T := TX7) (N := 34) (ci := 7) (v := .int (f_66 0 20)) hx hb hts inX7 hown hT hP 0 rfl rfl 25 (Nat.le_of_ble_eq_true rfl) lk244 (fun _ h => h) rfl dX7_best_134 ?_
              have hK9 := K0_of hf hK
              exact hRet (f_66 0 20) f_66 _ _ _ _ hK9 dX7_best_137 hP hD hS
            · have hf := if_t hf hc
              refine lv_aload_n hx hb dX7_best_126 rfl (lv_at hl 0 rfl) ?_
              refine va_get (C := RX7) (T := TX7) (N := 34) (ci := 7) (v := .int (f_66 0 19)) hx hb hts inX7 hown hT hP 0 rfl rfl 24 (Nat.le_of_ble_eq_true rfl) lk241 (fun _ h => h) rfl dX7_best_127 ?_
              refine lv_goto (tgt := 137) hx hb dX7_best_130 (by decide) ?_
              have hK9 := K0_of hf hK
              exact hRet (f_66 0 19) f_66 _ _ _ _ hK9 dX7_best_137 hP hD hS
          · have hf := if_t hf hc
            refine lv_aload_n hx hb dX7_best_113 rfl (lv_at hl 0 rfl) ?_
            refine va_get (C := RX7) (T := TX7) (N := 34) (ci := 7) (v := .int (f_66 0 18)) hx hb hts inX7 hown hT hP 0 rfl rfl 23 (Nat.le_of_ble_eq_true rfl) lk238 (fun _ h => h) rfl dX7_best_114 ?_
            refine lv_goto (tgt := 137) hx hb dX7_best_117 (by decide) ?_
            have hK9 := K0_of hf hK
            exact hRet (f_66 0 18) f_66 _ _ _ _ hK9 dX7_best_137 hP hD hS
        · have hf := if_t hf hc
          refine lv_aload_n hx hb dX7_best_101 rfl (lv_at hl 0 rfl) ?_
          refine va_get (C := RX7) (T := TX7) (N := 34) (ci := 7) (v := .int (f_66 0 17)) hx hb hts inX7 hown hT hP 0 rfl rfl 22 (Nat.le_of_ble_eq_true rfl) lk235 (fun _ h => h) rfl dX7_best_102 ?_
          refine lv_goto (tgt := 137) hx hb dX7_best_105 (by decide) ?_
          have hK9 := K0_of hf hK
          exact hRet (f_66 0 17) f_66 _ _ _ _ hK9 dX7_best_137 hP hD hS
      · have hf := if_t hf hc
        refine lv_aload_n hx hb dX7_best_89 rfl (lv_at hl 0 rfl) ?_
        refine va_get (C := RX7) (T := TX7) (N := 34) (ci := 7) (v := .int (f_66 0 16)) hx hb hts inX7 hown hT hP 0 rfl rfl 21 (Nat.le_of_ble_eq_true rfl) lk232 (fun _ h => h) rfl dX7_best_90 ?_
        refine lv_goto (tgt := 137) hx hb dX7_best_93 (by decide) ?_
        have hK9 := K0_of hf hK
        exact hRet (f_66 0 16) f_66 _ _ _ _ hK9 dX7_best_137 hP hD hS
  obtain ⟨res, hres, hK⟩ : ∃ res, p_X7_best f x1 x2 x3 = some res ∧ res = (r, fz) := ⟨_, hf, rfl⟩
  clear hf
  have hf := hres
  clear hres
  unfold p_X7_best at hf
  refine lv_iload_n hx hb dX7_best_0 rfl (lv_at hl 1 rfl) ?_
  obtain ⟨r1, hc1, hf⟩ := bd_e hf
  refine cl_z_ro (Wd := (wX7 G ad f)) (Wc := ([] : va_W)) [] rfl (va_runS (As := [.int x1]) (rest := []) hC (c_X7_isOwner l G x1 r1 hc1 _) (va_cwS 1 hts gX7_best_X7_isOwner rfl rfl rfl (by decide +kernel) ⟨Nat.le_of_ble_eq_true rfl, Nat.le_of_ble_eq_true rfl⟩) ⟨Pc0_blind, fun U hU hW => Pc0_at (Wd := ([] : va_W)) hE (hP.subm [] rfl) (hD.sub [] (by decide) rfl) hU hW⟩ rfl rfl hl.1 rfl (lv_room (Nat.le_of_ble_eq_true rfl)) dX7_best_1 ⟨Nat.zero_le _, Nat.zero_le _⟩) hS hA hP hD (fun H locs hn1 hP hD hS => ?_)
  refine lv_if_eq (tgt := 45) hx hb dX7_best_4 (by decide) (fun hc => ?_) (fun hc => ?_)
  · have hf := if_t hf hc
    refine lv_iconst (v := (-1 : Int32)) hx hb dX7_best_45 (ic_m1) ?_
    have hK9 := K0_of hf hK
    exact hRet (-1 : Int32) f _ _ _ _ hK9 dX7_best_46 hP hD hS
  · have hf := if_f hf hc
    refine lv_iload_n hx hb dX7_best_7 rfl (lv_at hl 2 rfl) ?_
    refine lv_i2l (v := ((x2).toInt64)) hx hb dX7_best_8 rfl ?_
    refine lv_lconst (v := (lN 0)) hx hb dX7_best_9 rfl ?_
    refine W.ldc2 (v := (2 : Int64)) hx hb hown (hts (.constantLong RX7 217 (2 : Int64)) (by decide +kernel)) rfl dX7_best_10 ?_
    refine W.eq (g2 := F0 m 13 ls [.long (2 : Int64), .long (lN 0), .long ((x2).toInt64)]) rfl ?_
    obtain ⟨r13, hc13, hf⟩ := bd_e hf
    refine cl_z_ro (Wd := (wX7 G ad f)) (Wc := ([] : va_W)) [] rfl (va_runS (As := [.long ((x2).toInt64), .long (lN 0), .long (2 : Int64)]) (rest := []) hC (c_X7_in l G ((x2).toInt64) (lN 0) (2 : Int64) r13 hc13 _) (va_cwS 3 hts gX7_best_X7_in rfl rfl rfl (by decide +kernel) ⟨Nat.le_of_ble_eq_true rfl, Nat.le_of_ble_eq_true rfl⟩) ⟨Pc0_blind, fun U hU hW => Pc0_at (Wd := ([] : va_W)) hE (hP.subm [] rfl) (hD.sub [] (by decide) rfl) hU hW⟩ rfl rfl hl.1 rfl (lv_room (Nat.le_of_ble_eq_true rfl)) dX7_best_13 ⟨Nat.zero_le _, Nat.zero_le _⟩) hS hA hP hD (fun H locs hn13 hP hD hS => ?_)
    refine lv_if_eq (tgt := 45) hx hb dX7_best_16 (by decide) (fun hc => ?_) (fun hc => ?_)
    · have hf := if_t hf hc
      refine lv_iconst (v := (-1 : Int32)) hx hb dX7_best_45 (ic_m1) ?_
      have hK9 := K0_of hf hK
      exact hRet (-1 : Int32) f _ _ _ _ hK9 dX7_best_46 hP hD hS
    · have hf := if_f hf hc
      refine lv_iload_n hx hb dX7_best_19 rfl (lv_at hl 3 rfl) ?_
      refine lv_i2l (v := ((x3).toInt64)) hx hb dX7_best_20 rfl ?_
      refine lv_lconst (v := (lN 0)) hx hb dX7_best_21 rfl ?_
      refine W.ldc2 (v := (2 : Int64)) hx hb hown (hts (.constantLong RX7 217 (2 : Int64)) (by decide +kernel)) rfl dX7_best_22 ?_
      refine W.eq (g2 := F0 m 25 ls [.long (2 : Int64), .long (lN 0), .long ((x3).toInt64)]) rfl ?_
      obtain ⟨r25, hc25, hf⟩ := bd_e hf
      refine cl_z_ro (Wd := (wX7 G ad f)) (Wc := ([] : va_W)) [] rfl (va_runS (As := [.long ((x3).toInt64), .long (lN 0), .long (2 : Int64)]) (rest := []) hC (c_X7_in l G ((x3).toInt64) (lN 0) (2 : Int64) r25 hc25 _) (va_cwS 3 hts gX7_best_X7_in rfl rfl rfl (by decide +kernel) ⟨Nat.le_of_ble_eq_true rfl, Nat.le_of_ble_eq_true rfl⟩) ⟨Pc0_blind, fun U hU hW => Pc0_at (Wd := ([] : va_W)) hE (hP.subm [] rfl) (hD.sub [] (by decide) rfl) hU hW⟩ rfl rfl hl.1 rfl (lv_room (Nat.le_of_ble_eq_true rfl)) dX7_best_25 ⟨Nat.zero_le _, Nat.zero_le _⟩) hS hA hP hD (fun H locs hn25 hP hD hS => ?_)
      refine lv_if_ne (tgt := 47) hx hb dX7_best_28 (by decide) (fun hc => ?_) (fun hc => ?_)
      · have hf := if_f hf hc
        exact hB47 f x1 x2 x3 _ hf hK _ _ _ hP hD hS (lv_sub hl [0, 1, 2, 3] rfl)
      · have hf := if_t hf hc
        refine lv_iload_n hx hb dX7_best_31 rfl (lv_at hl 3 rfl) ?_
        refine lv_i2l (v := ((x3).toInt64)) hx hb dX7_best_32 rfl ?_
        refine W.ldc2 (v := (10 : Int64)) hx hb hown (hts (.constantLong RX7 255 (10 : Int64)) (by decide +kernel)) rfl dX7_best_33 ?_
        refine W.eq (g2 := F0 m 36 ls [.long (10 : Int64), .long ((x3).toInt64)]) rfl ?_
        refine W.ldc2 (v := (11 : Int64)) hx hb hown (hts (.constantLong RX7 257 (11 : Int64)) (by decide +kernel)) rfl dX7_best_36 ?_
        refine W.eq (g2 := F0 m 39 ls [.long (11 : Int64), .long (10 : Int64), .long ((x3).toInt64)]) rfl ?_
        obtain ⟨r39, hc39, hf⟩ := bd_e hf
        refine cl_z_ro (Wd := (wX7 G ad f)) (Wc := ([] : va_W)) [] rfl (va_runS (As := [.long ((x3).toInt64), .long (10 : Int64), .long (11 : Int64)]) (rest := []) hC (c_X7_in l G ((x3).toInt64) (10 : Int64) (11 : Int64) r39 hc39 _) (va_cwS 3 hts gX7_best_X7_in rfl rfl rfl (by decide +kernel) ⟨Nat.le_of_ble_eq_true rfl, Nat.le_of_ble_eq_true rfl⟩) ⟨Pc0_blind, fun U hU hW => Pc0_at (Wd := ([] : va_W)) hE (hP.subm [] rfl) (hD.sub [] (by decide) rfl) hU hW⟩ rfl rfl hl.1 rfl (lv_room (Nat.le_of_ble_eq_true rfl)) dX7_best_39 ⟨Nat.zero_le _, Nat.zero_le _⟩) hS hA hP hD (fun H locs hn39 hP hD hS => ?_)
        refine lv_if_ne (tgt := 47) hx hb dX7_best_42 (by decide) (fun hc => ?_) (fun hc => ?_)
        · have hf := if_f hf hc
          exact hB47 f x1 x2 x3 _ hf hK _ _ _ hP hD hS (lv_sub hl [0, 1, 2, 3] rfl)
        · have hf := if_t hf hc
          refine lv_iconst (v := (-1 : Int32)) hx hb dX7_best_45 (ic_m1) ?_
          have hK9 := K0_of hf hK
          exact hRet (-1 : Int32) f _ _ _ _ hK9 dX7_best_46 hP hD hS
noncomputable def p_X7_leave_B82 (f_ : Mem) (x1 : Int32) (x2 : Int32) (x3 : Int32) (x5 : Int32) (x6 : Int32) (s0 : Int32) : Option ((Int32 × Int32 × Int32 × Mem) ⊕ (Int32 × Int32 × Mem)) :=
  if x6 ≤ x3 then
    (some (Sum.inl (x3, s0, (x5 + nI 1), f_)))
  else
    (some (Sum.inl (x6, s0, (x5 + nI 1), f_)))
noncomputable def p_X7_leave_L41 (x1 : Int32) (x2 : Int32) (z : Int32 × Int32 × Int32 × Mem) : Option ((Int32 × Int32 × Int32 × Mem) ⊕ (Int32 × Int32 × Mem)) :=
  match z with
  | (x3, x4, x5, f_) =>
    gd (inb (nI 59) 360) <|
    if (f_ 1 (nI 59).toNatClampNeg) ≤ x5 then
      (some (Sum.inr (x3, x4, f_)))
    else
      (Option.bind (p_X7_planGoes f_ x5) <| fun f_56 =>
       Option.bind (p_X7_worthOn f_56 (nI 240) x1) <| fun r64 =>
       if r64 ≤ x3 then
         (p_X7_leave_B82 f_56 x1 x2 x3 x5 r64 x4)
       else
         (p_X7_leave_B82 f_56 x1 x2 x3 x5 r64 x5))
noncomputable def p_X7_leave (f : Mem) (x1 : Int32) (x2 : Int32) : Option (Int32 × Mem) :=
  Option.bind (p_X7_isOwner x1) <| fun r1 =>
  if r1 = 0 then
    (some ((-1 : Int32), f))
  else
    (Option.bind (p_X7_in ((x2).toInt64) (lN 0) (lN 1)) <| fun r11 =>
     if r11 = 0 then
       (some ((-1 : Int32), f))
     else
       (Option.bind (p_X7_planGoes f (-4 : Int32)) <| fun f_22 =>
        Option.bind (p_X7_worthOn f_22 (nI 240) x1) <| fun r30 =>
        Option.bind (lp (p_X7_leave_L41 x1 x2) (r30, (-4 : Int32), (nI 0), f_22)) <| fun (y3_41, y4_41, f_41) =>
        if y4_41 = (-4 : Int32) then
          (some (y4_41, f_41))
        else
          (if x2 = 0 then
             (some (y4_41, f_41))
           else
             (some (y3_41, f_41)))))
set_option maxHeartbeats 4000000 in
set_option maxRecDepth 100000 in
theorem c_X7_leave (l : Launch) (G : Gt) (ad : Nat → Nat) (f : Mem) (x1 : Int32) (x2 : Int32) (r : Int32) (fz : Mem) (hf : p_X7_leave f x1 x2 = some (r, fz)) (sz : Nat) : Met l yX7_leave wsX7_leave ({ frames := 5, cells := 0, slots := 0, locals := 111 }) (Pc0 G sz [.ref (ad 0), .int x1, .int x2] (wX7 G ad f)) (Qi0 G (va_A (wX7 G ad f) sz) r (wX7 G ad fz)) 0 0 (va_A (wX7 G ad f) sz) := by
  refine metP (Qf := fun A => Qi0 G A r (wX7 G ad fz)) cX7_leave 7 (some .int) (by decide) rfl (Nat.le_of_ble_eq_true rfl) ?_
  intro p e s m below meth c A ls hC hr hlocks hin hE hA hsz hP hD hS hl
  generalize hargs : ([.ref (ad 0), .int x1, .int x2] : List Value).toArray = args at hC ⊢
  obtain ⟨hx, hb, hml, hown, hts⟩ := id hC
  have hT : va_K G.1 vwCl (tyL G) s := hE.1
  have hRet : ∀ (r9 : Int32) (f9 : Mem) (H : Heap) (locs : List Loc) (ls : Array Slot) (pc : Nat) (hK9 : (r9, f9) = (r, fz)) (hdg : decode cX7_leave pc = .ok (.ireturn, 1)), va_P G.1 vwCl (wX7 G ad f9) H → va_D A (wX7 G ad f9) → va_S A s.heap H locs → W p l e ({ frames := 5, cells := 0, slots := 0, locals := 111 }) s m args below meth c H locs 0 0 (MQ below (Qi0 G A r (wX7 G ad fz)) args s 0 0 A) (F0 m pc ls [.int r9]) := by
    intro r9 f9 H locs ls pc hK9 hdg hP hD hS
    cases hK9
    exact W.iret hx hb hr (fun t ht hW => ⟨⟨r, (), rfl, rfl, by rw [ht]; exact hP, hD⟩, hS.F ht⟩) hS.2.2 hdg hlocks
  generalize MQ below (Qi0 G A r (wX7 G ad fz)) args s 0 0 A = Q at hRet ⊢
  have lk7 := hts (.fieldLink RX7 7 "FeatherSharesModel" "state" "[I") (by decide +kernel)
  have inX7 : ∀ w ∈ u_ws RX7 TX7 34, w ∈ wsX7_leave := by decide +kernel
  have hl : lv_has ls 7 [(0, .ref (ad 0)), (1, .int x1), (2, .int x2)] := hl
  have hK0 : (r, fz) = (r, fz) := rfl
  obtain ⟨res, hres, hK⟩ : ∃ res, p_X7_leave f x1 x2 = some res ∧ res = (r, fz) := ⟨_, hf, rfl⟩
  clear hf
  have hf := hres
  clear hres
  unfold p_X7_leave at hf
  refine lv_iload_n hx hb dX7_leave_0 rfl (lv_at hl 1 rfl) ?_
  obtain ⟨r1, hc1, hf⟩ := bd_e hf
  refine cl_z_ro (Wd := (wX7 G ad f)) (Wc := ([] : va_W)) [] rfl (va_runS (As := [.int x1]) (rest := []) hC (c_X7_isOwner l G x1 r1 hc1 _) (va_cwS 1 hts gX7_leave_X7_isOwner rfl rfl rfl (by decide +kernel) ⟨Nat.le_of_ble_eq_true rfl, Nat.le_of_ble_eq_true rfl⟩) ⟨Pc0_blind, fun U hU hW => Pc0_at (Wd := ([] : va_W)) hE (hP.subm [] rfl) (hD.sub [] (by decide) rfl) hU hW⟩ rfl rfl hl.1 rfl (lv_room (Nat.le_of_ble_eq_true rfl)) dX7_leave_1 ⟨Nat.zero_le _, Nat.zero_le _⟩) hS hA hP hD (fun H locs hn1 hP hD hS => ?_)
  refine lv_if_eq (tgt := 17) hx hb dX7_leave_4 (by decide) (fun hc => ?_) (fun hc => ?_)
  · have hf := if_t hf hc
    refine lv_iconst (v := (-1 : Int32)) hx hb dX7_leave_17 (ic_m1) ?_
    have hK9 := K0_of hf hK
    exact hRet (-1 : Int32) f _ _ _ _ hK9 dX7_leave_18 hP hD hS
  · have hf := if_f hf hc
    refine lv_iload_n hx hb dX7_leave_7 rfl (lv_at hl 2 rfl) ?_
    refine lv_i2l (v := ((x2).toInt64)) hx hb dX7_leave_8 rfl ?_
    refine lv_lconst (v := (lN 0)) hx hb dX7_leave_9 rfl ?_
    refine lv_lconst (v := (lN 1)) hx hb dX7_leave_10 rfl ?_
    obtain ⟨r11, hc11, hf⟩ := bd_e hf
    refine cl_z_ro (Wd := (wX7 G ad f)) (Wc := ([] : va_W)) [] rfl (va_runS (As := [.long ((x2).toInt64), .long (lN 0), .long (lN 1)]) (rest := []) hC (c_X7_in l G ((x2).toInt64) (lN 0) (lN 1) r11 hc11 _) (va_cwS 3 hts gX7_leave_X7_in rfl rfl rfl (by decide +kernel) ⟨Nat.le_of_ble_eq_true rfl, Nat.le_of_ble_eq_true rfl⟩) ⟨Pc0_blind, fun U hU hW => Pc0_at (Wd := ([] : va_W)) hE (hP.subm [] rfl) (hD.sub [] (by decide) rfl) hU hW⟩ rfl rfl hl.1 rfl (lv_room (Nat.le_of_ble_eq_true rfl)) dX7_leave_11 ⟨Nat.zero_le _, Nat.zero_le _⟩) hS hA hP hD (fun H locs hn11 hP hD hS => ?_)
    refine lv_if_ne (tgt := 19) hx hb dX7_leave_14 (by decide) (fun hc => ?_) (fun hc => ?_)
    · have hf := if_f hf hc
      refine lv_aload_n hx hb dX7_leave_19 rfl (lv_at hl 0 rfl) ?_
      refine lv_bipush (v := (-4 : Int32)) hx hb dX7_leave_20 (bi_m4) ?_
      obtain ⟨f_22, hc22, hf⟩ := bd_e hf
      refine cl_v_same (Wd := (wX7 G ad f)) (W' := (wX7 G ad f_22)) (va_runV (As := [.int (-4 : Int32)]) (rest := []) hC (c_X7_planGoes l G ad f (-4 : Int32) f_22 hc22 _) (cwV 1 hts gX7_leave_X7_planGoes rfl rfl rfl (by decide +kernel) ⟨Nat.le_of_ble_eq_true rfl, Nat.le_of_ble_eq_true rfl⟩) ⟨Pc0_blind, va_recv hT hP (q0 := 0) (ci := 7) rfl rfl, fun U hU hW => Pc0_at hE hP hD hU hW⟩ rfl rfl hl.1 rfl (lv_room (Nat.le_of_ble_eq_true rfl)) dX7_leave_22 ⟨Nat.zero_le _, Nat.zero_le _⟩) hS hA hD (fun H locs hP hD hS => ?_)
      refine lv_aload_n hx hb dX7_leave_25 rfl (lv_at hl 0 rfl) ?_
      refine lv_sipush (v := (nI 240)) hx hb dX7_leave_26 (si_240) ?_
      refine lv_iload_n hx hb dX7_leave_29 rfl (lv_at hl 1 rfl) ?_
      obtain ⟨r30, hc30, hf⟩ := bd_e hf
      refine cl_i_same (Wd := (wX7 G ad f_22)) (W' := (wX7 G ad f_22)) (va_runV (As := [.int (nI 240), .int x1]) (rest := []) hC (c_X7_worthOn l G ad f_22 (nI 240) x1 r30 hc30 _) (cwV 2 hts gX7_leave_X7_worthOn rfl rfl rfl (by decide +kernel) ⟨Nat.le_of_ble_eq_true rfl, Nat.le_of_ble_eq_true rfl⟩) ⟨Pc0_blind, va_recv hT hP (q0 := 0) (ci := 7) rfl rfl, fun U hU hW => Pc0_at hE hP hD hU hW⟩ rfl rfl hl.1 rfl (lv_room (Nat.le_of_ble_eq_true rfl)) dX7_leave_30 ⟨Nat.zero_le _, Nat.zero_le _⟩) hS hA hD (fun H locs hP hD hS => ?_)
      refine lv_istore_n (lv' := [(3, .int r30), (0, .ref (ad 0)), (1, .int x1), (2, .int x2)]) hx hb dX7_leave_33 rfl hl (by decide) rfl (fun ls hl => ?_)
      refine lv_bipush (v := (-4 : Int32)) hx hb dX7_leave_34 (bi_m4) ?_
      refine lv_istore (lv' := [(4, .int (-4 : Int32)), (3, .int r30), (0, .ref (ad 0)), (1, .int x1), (2, .int x2)]) hx hb dX7_leave_36 hl (by decide) rfl (fun ls hl => ?_)
      refine lv_iconst (v := (nI 0)) hx hb dX7_leave_38 (ic_0) ?_
      refine lv_istore (lv' := [(5, .int (nI 0)), (4, .int (-4 : Int32)), (3, .int r30), (0, .ref (ad 0)), (1, .int x1), (2, .int x2)]) hx hb dX7_leave_39 hl (by decide) rfl (fun ls hl => ?_)
      obtain ⟨⟨y3_41, y4_41, f_41⟩, hlp, hf⟩ := bd_e hf
      refine lp_W1 (p_X7_leave_L41 x1 x2) (fun z => match z with | (x3, x4, x5, f_) => ∀ (H : Heap) (locs : List Loc) (ls : Array Slot), va_P G.1 vwCl (wX7 G ad f_) H → va_D A (wX7 G ad f_) → va_S A s.heap H locs → lv_has ls 7 [(0, .ref (ad 0)), (1, .int x1), (2, .int x2), (3, .int x3), (4, .int x4), (5, .int x5)] → W p l e ({ frames := 5, cells := 0, slots := 0, locals := 111 }) s m args below meth c H locs 0 0 Q (F0 m 41 ls [])) (fun z => match z with | (y3_41, y4_41, f_41) => ∀ (H : Heap) (locs : List Loc) (ls : Array Slot), va_P G.1 vwCl (wX7 G ad f_41) H → va_D A (wX7 G ad f_41) → va_S A s.heap H locs → lv_has ls 7 [(2, .int x2), (3, .int y3_41), (4, .int y4_41)] → W p l e ({ frames := 5, cells := 0, slots := 0, locals := 111 }) s m args below meth c H locs 0 0 Q (F0 m 103 ls [])) ?_ hlp ?_ _ _ _ hP hD hS (lv_sub hl [3, 4, 5, 2, 1, 0] rfl)
      · clear hlp hf hK hP hD hS hl
        intro K41 hW41 hX41 
        have hB82 : ∀ (f_ : Mem) (x3 : Int32) (x5 : Int32) (x6 : Int32) (s0 : Int32) (res : (Int32 × Int32 × Int32 × Mem) ⊕ (Int32 × Int32 × Mem)) (hf : p_X7_leave_B82 f_ x1 x2 x3 x5 x6 s0 = some res) (hK : K41 res), ∀ (H : Heap) (locs : List Loc) (ls : Array Slot), va_P G.1 vwCl (wX7 G ad f_) H → va_D A (wX7 G ad f_) → va_S A s.heap H locs → lv_has ls 7 [(0, .ref (ad 0)), (1, .int x1), (2, .int x2), (3, .int x3), (5, .int x5), (6, .int x6)] → W p l e ({ frames := 5, cells := 0, slots := 0, locals := 111 }) s m args below meth c H locs 0 0 Q (F0 m 82 ls [.int s0]) := by
          intro f_ x3 x5 x6 s0 res hf hK H locs ls hP hD hS hl
          unfold p_X7_leave_B82 at hf
          refine lv_istore (lv' := [(4, .int s0), (0, .ref (ad 0)), (1, .int x1), (2, .int x2), (3, .int x3), (5, .int x5), (6, .int x6)]) hx hb dX7_leave_82 hl (by decide) rfl (fun ls hl => ?_)
          refine lv_iload hx hb dX7_leave_84 (lv_at hl 6 rfl) ?_
          refine lv_iload_n hx hb dX7_leave_86 rfl (lv_at hl 4 rfl) ?_
          refine lv_icmp_le (tgt := 95) hx hb dX7_leave_87 (by decide) (fun hc => ?_) (fun hc => ?_)
          · have hf := if_t hf hc
            refine lv_iload_n hx hb dX7_leave_95 rfl (lv_at hl 4 rfl) ?_
            refine lv_istore_n (lv' := [(3, .int x3), (4, .int s0), (0, .ref (ad 0)), (1, .int x1), (2, .int x2), (5, .int x5), (6, .int x6)]) hx hb dX7_leave_96 rfl hl (by decide) rfl (fun ls hl => ?_)
            refine lv_iinc (v := (x5 + nI 1)) (lv' := [(5, .int (x5 + nI 1)), (3, .int x3), (4, .int s0), (0, .ref (ad 0)), (1, .int x1), (2, .int x2), (6, .int x6)]) hx hb dX7_leave_97 hl (k := 5) rfl (ii_x 1 _) (by decide) rfl (fun ls hl => ?_)
            refine lv_goto (tgt := 41) hx hb dX7_leave_100 (by decide) ?_
            have hK9 := K_of hf hK
            have hK9 := hW41 _ hK9
            exact hK9 _ _ _ hP hD hS (lv_sub hl [3, 4, 5, 1, 2, 0] rfl)
          · have hf := if_f hf hc
            refine lv_iload hx hb dX7_leave_90 (lv_at hl 6 rfl) ?_
            refine lv_goto (tgt := 96) hx hb dX7_leave_92 (by decide) ?_
            refine lv_istore_n (lv' := [(3, .int x6), (4, .int s0), (0, .ref (ad 0)), (1, .int x1), (2, .int x2), (5, .int x5), (6, .int x6)]) hx hb dX7_leave_96 rfl hl (by decide) rfl (fun ls hl => ?_)
            refine lv_iinc (v := (x5 + nI 1)) (lv' := [(5, .int (x5 + nI 1)), (3, .int x6), (4, .int s0), (0, .ref (ad 0)), (1, .int x1), (2, .int x2), (6, .int x6)]) hx hb dX7_leave_97 hl (k := 5) rfl (ii_x 1 _) (by decide) rfl (fun ls hl => ?_)
            refine lv_goto (tgt := 41) hx hb dX7_leave_100 (by decide) ?_
            have hK9 := K_of hf hK
            have hK9 := hW41 _ hK9
            exact hK9 _ _ _ hP hD hS (lv_sub hl [3, 4, 5, 1, 2, 0] rfl)
        rintro ⟨x3, x4, x5, f_⟩ res hf hK H locs ls hP hD hS hl
        unfold p_X7_leave_L41 at hf
        dsimp only at hf
        refine lv_iload hx hb dX7_leave_41 (lv_at hl 5 rfl) ?_
        refine lv_aload_n hx hb dX7_leave_43 rfl (lv_at hl 0 rfl) ?_
        refine va_get (C := RX7) (T := TX7) (N := 34) (ci := 7) (v := .ref (ad 1)) hx hb hts inX7 hown hT hP 0 rfl rfl 0 (Nat.le_of_ble_eq_true rfl) lk7 (fun _ h => h) rfl dX7_leave_44 ?_
        refine lv_bipush (v := (nI 59)) hx hb dX7_leave_47 (bi_59) ?_
        obtain ⟨hg, hf⟩ := gd_e hf
        refine va_iald (f := f_ 1) hx hb hT hP 1 0 rfl rfl (inb_e hg) dX7_leave_49 ?_
        refine lv_icmp_ge (tgt := 103) hx hb dX7_leave_50 (by decide) (fun hc => ?_) (fun hc => ?_)
        · have hf := if_t hf hc
          have hK9 := K_of hf hK
          have hK9 := hX41 _ hK9
          exact hK9 _ _ _ hP hD hS (lv_sub hl [2, 3, 4] rfl)
        · have hf := if_f hf hc
          refine lv_aload_n hx hb dX7_leave_53 rfl (lv_at hl 0 rfl) ?_
          refine lv_iload hx hb dX7_leave_54 (lv_at hl 5 rfl) ?_
          obtain ⟨f_56, hc56, hf⟩ := bd_e hf
          refine cl_v_same (Wd := (wX7 G ad f_)) (W' := (wX7 G ad f_56)) (va_runV (As := [.int x5]) (rest := []) hC (c_X7_planGoes l G ad f_ x5 f_56 hc56 _) (cwV 1 hts gX7_leave_X7_planGoes rfl rfl rfl (by decide +kernel) ⟨Nat.le_of_ble_eq_true rfl, Nat.le_of_ble_eq_true rfl⟩) ⟨Pc0_blind, va_recv hT hP (q0 := 0) (ci := 7) rfl rfl, fun U hU hW => Pc0_at hE hP hD hU hW⟩ rfl rfl hl.1 rfl (lv_room (Nat.le_of_ble_eq_true rfl)) dX7_leave_56 ⟨Nat.zero_le _, Nat.zero_le _⟩) hS hA hD (fun H locs hP hD hS => ?_)
          refine lv_aload_n hx hb dX7_leave_59 rfl (lv_at hl 0 rfl) ?_
          refine lv_sipush (v := (nI 240)) hx hb dX7_leave_60 (si_240) ?_
          refine lv_iload_n hx hb dX7_leave_63 rfl (lv_at hl 1 rfl) ?_
          obtain ⟨r64, hc64, hf⟩ := bd_e hf
          refine cl_i_same (Wd := (wX7 G ad f_56)) (W' := (wX7 G ad f_56)) (va_runV (As := [.int (nI 240), .int x1]) (rest := []) hC (c_X7_worthOn l G ad f_56 (nI 240) x1 r64 hc64 _) (cwV 2 hts gX7_leave_X7_worthOn rfl rfl rfl (by decide +kernel) ⟨Nat.le_of_ble_eq_true rfl, Nat.le_of_ble_eq_true rfl⟩) ⟨Pc0_blind, va_recv hT hP (q0 := 0) (ci := 7) rfl rfl, fun U hU hW => Pc0_at hE hP hD hU hW⟩ rfl rfl hl.1 rfl (lv_room (Nat.le_of_ble_eq_true rfl)) dX7_leave_64 ⟨Nat.zero_le _, Nat.zero_le _⟩) hS hA hD (fun H locs hP hD hS => ?_)
          refine lv_istore (lv' := [(6, .int r64), (0, .ref (ad 0)), (1, .int x1), (2, .int x2), (3, .int x3), (4, .int x4), (5, .int x5)]) hx hb dX7_leave_67 hl (by decide) rfl (fun ls hl => ?_)
          refine lv_iload hx hb dX7_leave_69 (lv_at hl 0 rfl) ?_
          refine lv_iload_n hx hb dX7_leave_71 rfl (lv_at hl 4 rfl) ?_
          refine lv_icmp_le (tgt := 80) hx hb dX7_leave_72 (by decide) (fun hc => ?_) (fun hc => ?_)
          · have hf := if_t hf hc
            refine lv_iload hx hb dX7_leave_80 (lv_at hl 5 rfl) ?_
            exact hB82 f_56 x3 x5 r64 x4 _ hf hK _ _ _ hP hD hS (lv_sub hl [1, 2, 3, 4, 6, 0] rfl)
          · have hf := if_f hf hc
            refine lv_iload hx hb dX7_leave_75 (lv_at hl 6 rfl) ?_
            refine lv_goto (tgt := 82) hx hb dX7_leave_77 (by decide) ?_
            exact hB82 f_56 x3 x5 r64 x5 _ hf hK _ _ _ hP hD hS (lv_sub hl [1, 2, 3, 4, 6, 0] rfl)
      · try dsimp only at hf
        show ∀ (H : Heap) (locs : List Loc) (ls : Array Slot), va_P G.1 vwCl (wX7 G ad f_41) H → va_D A (wX7 G ad f_41) → va_S A s.heap H locs → lv_has ls 7 [(2, .int x2), (3, .int y3_41), (4, .int y4_41)] → W p l e ({ frames := 5, cells := 0, slots := 0, locals := 111 }) s m args below meth c H locs 0 0 Q (F0 m 103 ls [])
        intro H locs ls hP hD hS hl
        refine lv_iload hx hb dX7_leave_103 (lv_at hl 2 rfl) ?_
        refine lv_bipush (v := (-4 : Int32)) hx hb dX7_leave_105 (bi_m4) ?_
        refine lv_icmp_eq (tgt := 114) hx hb dX7_leave_107 (by decide) (fun hc => ?_) (fun hc => ?_)
        · have hf := if_t hf hc
          refine lv_iload hx hb dX7_leave_114 (lv_at hl 2 rfl) ?_
          refine lv_goto (tgt := 120) hx hb dX7_leave_116 (by decide) ?_
          have hK9 := K0_of hf hK
          exact hRet y4_41 f_41 _ _ _ _ hK9 dX7_leave_120 hP hD hS
        · have hf := if_f hf hc
          refine lv_iload_n hx hb dX7_leave_110 rfl (lv_at hl 0 rfl) ?_
          refine lv_if_ne (tgt := 119) hx hb dX7_leave_111 (by decide) (fun hc => ?_) (fun hc => ?_)
          · have hf := if_f hf hc
            refine lv_iload_n hx hb dX7_leave_119 rfl (lv_at hl 1 rfl) ?_
            have hK9 := K0_of hf hK
            exact hRet y3_41 f_41 _ _ _ _ hK9 dX7_leave_120 hP hD hS
          · have hf := if_t hf hc
            refine lv_iload hx hb dX7_leave_114 (lv_at hl 2 rfl) ?_
            refine lv_goto (tgt := 120) hx hb dX7_leave_116 (by decide) ?_
            have hK9 := K0_of hf hK
            exact hRet y4_41 f_41 _ _ _ _ hK9 dX7_leave_120 hP hD hS
    · have hf := if_t hf hc
      refine lv_iconst (v := (-1 : Int32)) hx hb dX7_leave_17 (ic_m1) ?_
      have hK9 := K0_of hf hK
      exact hRet (-1 : Int32) f _ _ _ _ hK9 dX7_leave_18 hP hD hS
noncomputable def p_X7_sumOf_L5 (f : Mem) (x1 : Int32) (x2 : Int32) (z : Int32 × Int32) : Option ((Int32 × Int32) ⊕ Int32) :=
  match z with
  | (x3, x4) =>
    if (nI 5) ≤ x4 then
      (some (Sum.inr x3))
    else
      (if ((x2 >>> (x4 &&& 31)) &&& (nI 1)) = (nI 1) then
         (Option.bind (p_X7_shareOn f (nI 0) x1 x4) <| fun r27 =>
          some (Sum.inl ((x3 + r27), (x4 + nI 1))))
       else
         (some (Sum.inl ((x3 + (nI 0)), (x4 + nI 1)))))
noncomputable def p_X7_sumOf (f : Mem) (x1 : Int32) (x2 : Int32) : Option (Int32) :=
  Option.bind (lp (p_X7_sumOf_L5 f x1 x2) ((nI 0), (nI 0))) <| fun y3_5 =>
  some y3_5
set_option maxHeartbeats 4000000 in
set_option maxRecDepth 100000 in
theorem c_X7_sumOf (l : Launch) (G : Gt) (ad : Nat → Nat) (f : Mem) (x1 : Int32) (x2 : Int32) (r : Int32) (hf : p_X7_sumOf f x1 x2 = some r) (sz : Nat) : Met l yX7_sumOf wsX7_sumOf ({ frames := 2, cells := 0, slots := 0, locals := 35 }) (Pc0 G sz [.ref (ad 0), .int x1, .int x2] (wX7 G ad f)) (Qi0 G (va_A (wX7 G ad f) sz) r (wX7 G ad f)) 0 0 (va_A (wX7 G ad f) sz) := by
  refine metP (Qf := fun A => Qi0 G A r (wX7 G ad f)) cX7_sumOf 5 (some .int) (by decide) rfl (Nat.le_of_ble_eq_true rfl) ?_
  intro p e s m below meth c A ls hC hr hlocks hin hE hA hsz hP hD hS hl
  generalize hargs : ([.ref (ad 0), .int x1, .int x2] : List Value).toArray = args at hC ⊢
  obtain ⟨hx, hb, hml, hown, hts⟩ := id hC
  have hT : va_K G.1 vwCl (tyL G) s := hE.1
  have hRet : ∀ (r9 : Int32) (H : Heap) (locs : List Loc) (ls : Array Slot) (pc : Nat) (hK9 : r9 = r) (hdg : decode cX7_sumOf pc = .ok (.ireturn, 1)), va_P G.1 vwCl (wX7 G ad f) H → va_D A (wX7 G ad f) → va_S A s.heap H locs → W p l e ({ frames := 2, cells := 0, slots := 0, locals := 35 }) s m args below meth c H locs 0 0 (MQ below (Qi0 G A r (wX7 G ad f)) args s 0 0 A) (F0 m pc ls [.int r9]) := by
    intro r9 H locs ls pc hK9 hdg hP hD hS
    cases hK9
    exact W.iret hx hb hr (fun t ht hW => ⟨⟨r, (), rfl, rfl, by rw [ht]; exact hP, hD⟩, hS.F ht⟩) hS.2.2 hdg hlocks
  generalize MQ below (Qi0 G A r (wX7 G ad f)) args s 0 0 A = Q at hRet ⊢
  have hl : lv_has ls 5 [(0, .ref (ad 0)), (1, .int x1), (2, .int x2)] := hl
  have hK0 : r = r := rfl
  obtain ⟨res, hres, hK⟩ : ∃ res, p_X7_sumOf f x1 x2 = some res ∧ res = r := ⟨_, hf, rfl⟩
  clear hf
  have hf := hres
  clear hres
  unfold p_X7_sumOf at hf
  refine lv_iconst (v := (nI 0)) hx hb dX7_sumOf_0 (ic_0) ?_
  refine lv_istore_n (lv' := [(3, .int (nI 0)), (0, .ref (ad 0)), (1, .int x1), (2, .int x2)]) hx hb dX7_sumOf_1 rfl hl (by decide) rfl (fun ls hl => ?_)
  refine lv_iconst (v := (nI 0)) hx hb dX7_sumOf_2 (ic_0) ?_
  refine lv_istore (lv' := [(4, .int (nI 0)), (3, .int (nI 0)), (0, .ref (ad 0)), (1, .int x1), (2, .int x2)]) hx hb dX7_sumOf_3 hl (by decide) rfl (fun ls hl => ?_)
  obtain ⟨y3_5, hlp, hf⟩ := bd_e hf
  refine lp_W1 (p_X7_sumOf_L5 f x1 x2) (fun z => match z with | (x3, x4) => ∀ (H : Heap) (locs : List Loc) (ls : Array Slot), va_P G.1 vwCl (wX7 G ad f) H → va_D A (wX7 G ad f) → va_S A s.heap H locs → lv_has ls 5 [(0, .ref (ad 0)), (1, .int x1), (2, .int x2), (3, .int x3), (4, .int x4)] → W p l e ({ frames := 2, cells := 0, slots := 0, locals := 35 }) s m args below meth c H locs 0 0 Q (F0 m 5 ls [])) (fun (y3_5 : Int32) => ∀ (H : Heap) (locs : List Loc) (ls : Array Slot), va_P G.1 vwCl (wX7 G ad f) H → va_D A (wX7 G ad f) → va_S A s.heap H locs → lv_has ls 5 [(3, .int y3_5)] → W p l e ({ frames := 2, cells := 0, slots := 0, locals := 35 }) s m args below meth c H locs 0 0 Q (F0 m 42 ls [])) ?_ hlp ?_ _ _ _ hP hD hS (lv_sub hl [2, 3, 4, 1, 0] rfl)
  · clear hlp hf hK hP hD hS hl
    intro K5 hW5 hX5 
    rintro ⟨x3, x4⟩ res hf hK H locs ls hP hD hS hl
    unfold p_X7_sumOf_L5 at hf
    dsimp only at hf
    refine lv_iload hx hb dX7_sumOf_5 (lv_at hl 4 rfl) ?_
    refine lv_iconst (v := (nI 5)) hx hb dX7_sumOf_7 (ic_5) ?_
    refine lv_icmp_ge (tgt := 42) hx hb dX7_sumOf_8 (by decide) (fun hc => ?_) (fun hc => ?_)
    · have hf := if_t hf hc
      have hK9 := K_of hf hK
      have hK9 := hX5 _ hK9
      exact hK9 _ _ _ hP hD hS (lv_sub hl [3] rfl)
    · have hf := if_f hf hc
      refine lv_iload_n hx hb dX7_sumOf_11 rfl (lv_at hl 3 rfl) ?_
      refine lv_iload_n hx hb dX7_sumOf_12 rfl (lv_at hl 2 rfl) ?_
      refine lv_iload hx hb dX7_sumOf_13 (lv_at hl 4 rfl) ?_
      refine lv_ishr hx hb dX7_sumOf_15 ?_
      refine lv_iconst (v := (nI 1)) hx hb dX7_sumOf_16 (ic_1) ?_
      refine lv_iand hx hb dX7_sumOf_17 ?_
      refine lv_iconst (v := (nI 1)) hx hb dX7_sumOf_18 (ic_1) ?_
      refine lv_icmp_ne (tgt := 33) hx hb dX7_sumOf_19 (by decide) (fun hc => ?_) (fun hc => ?_)
      · have hf := if_f hf hc
        refine lv_iconst (v := (nI 0)) hx hb dX7_sumOf_33 (ic_0) ?_
        refine lv_iadd hx hb dX7_sumOf_34 ?_
        refine lv_istore_n (lv' := [(3, .int (x3 + (nI 0))), (0, .ref (ad 0)), (1, .int x1), (2, .int x2), (4, .int x4)]) hx hb dX7_sumOf_35 rfl hl (by decide) rfl (fun ls hl => ?_)
        refine lv_iinc (v := (x4 + nI 1)) (lv' := [(4, .int (x4 + nI 1)), (3, .int (x3 + (nI 0))), (0, .ref (ad 0)), (1, .int x1), (2, .int x2)]) hx hb dX7_sumOf_36 hl (k := 4) rfl (ii_x 1 _) (by decide) rfl (fun ls hl => ?_)
        refine lv_goto (tgt := 5) hx hb dX7_sumOf_39 (by decide) ?_
        have hK9 := K_of hf hK
        have hK9 := hW5 _ hK9
        exact hK9 _ _ _ hP hD hS (lv_sub hl [2, 3, 4, 1, 0] rfl)
      · have hf := if_t hf hc
        refine lv_aload_n hx hb dX7_sumOf_22 rfl (lv_at hl 0 rfl) ?_
        refine lv_iconst (v := (nI 0)) hx hb dX7_sumOf_23 (ic_0) ?_
        refine lv_iload_n hx hb dX7_sumOf_24 rfl (lv_at hl 1 rfl) ?_
        refine lv_iload hx hb dX7_sumOf_25 (lv_at hl 4 rfl) ?_
        obtain ⟨r27, hc27, hf⟩ := bd_e hf
        refine cl_i_same (Wd := (wX7 G ad f)) (W' := (wX7 G ad f)) (va_runV (As := [.int (nI 0), .int x1, .int x4]) (rest := [.int x3]) hC (c_X7_shareOn l G ad f (nI 0) x1 x4 r27 hc27 _) (cwV 3 hts gX7_sumOf_X7_shareOn rfl rfl rfl (by decide +kernel) ⟨Nat.le_of_ble_eq_true rfl, Nat.le_of_ble_eq_true rfl⟩) ⟨Pc0_blind, va_recv hT hP (q0 := 0) (ci := 7) rfl rfl, fun U hU hW => Pc0_at hE hP hD hU hW⟩ rfl rfl hl.1 rfl (lv_room (Nat.le_of_ble_eq_true rfl)) dX7_sumOf_27 ⟨Nat.zero_le _, Nat.zero_le _⟩) hS hA hD (fun H locs hP hD hS => ?_)
        refine lv_goto (tgt := 34) hx hb dX7_sumOf_30 (by decide) ?_
        refine lv_iadd hx hb dX7_sumOf_34 ?_
        refine lv_istore_n (lv' := [(3, .int (x3 + r27)), (0, .ref (ad 0)), (1, .int x1), (2, .int x2), (4, .int x4)]) hx hb dX7_sumOf_35 rfl hl (by decide) rfl (fun ls hl => ?_)
        refine lv_iinc (v := (x4 + nI 1)) (lv' := [(4, .int (x4 + nI 1)), (3, .int (x3 + r27)), (0, .ref (ad 0)), (1, .int x1), (2, .int x2)]) hx hb dX7_sumOf_36 hl (k := 4) rfl (ii_x 1 _) (by decide) rfl (fun ls hl => ?_)
        refine lv_goto (tgt := 5) hx hb dX7_sumOf_39 (by decide) ?_
        have hK9 := K_of hf hK
        have hK9 := hW5 _ hK9
        exact hK9 _ _ _ hP hD hS (lv_sub hl [2, 3, 4, 1, 0] rfl)
  · try dsimp only at hf
    show ∀ (H : Heap) (locs : List Loc) (ls : Array Slot), va_P G.1 vwCl (wX7 G ad f) H → va_D A (wX7 G ad f) → va_S A s.heap H locs → lv_has ls 5 [(3, .int y3_5)] → W p l e ({ frames := 2, cells := 0, slots := 0, locals := 35 }) s m args below meth c H locs 0 0 Q (F0 m 42 ls [])
    intro H locs ls hP hD hS hl
    refine lv_iload_n hx hb dX7_sumOf_42 rfl (lv_at hl 0 rfl) ?_
    have hK9 := K0_of hf hK
    exact hRet y3_5 _ _ _ _ hK9 dX7_sumOf_43 hP hD hS
noncomputable def p_X7_swingsOf_B34 (f : Mem) (x1 : Int32) (x2 : Int32) (x3 : Int32) (x4 : Int32) (x5 : Int32) (s0 : Int32) : Option ((Int32 × Int32) ⊕ Int32) :=
  if s0 = 0 then
    (some (Sum.inl ((x4 + (nI 0)), (x5 + nI 1))))
  else
    (Option.bind (p_X7_sumOf f x1 x5) <| fun r48 =>
     if x3 < ((nI 2) * r48) then
       (some (Sum.inl ((x4 + (nI 0)), (x5 + nI 1))))
     else
       (Option.bind (p_X7_sumOf f x1 (x5 ||| ((nI 1) <<< (x2 &&& 31)))) <| fun r65 =>
        if ((nI 2) * r65) ≤ x3 then
          (some (Sum.inl ((x4 + (nI 0)), (x5 + nI 1))))
        else
          (some (Sum.inl ((x4 + (nI 1)), (x5 + nI 1))))))
noncomputable def p_X7_swingsOf_L13 (f : Mem) (x1 : Int32) (x2 : Int32) (x3 : Int32) (z : Int32 × Int32) : Option ((Int32 × Int32) ⊕ Int32) :=
  match z with
  | (x4, x5) =>
    if (nI 32) ≤ x5 then
      (some (Sum.inr x4))
    else
      (if ((x5 >>> (x2 &&& 31)) &&& (nI 1)) = 0 then
         (p_X7_swingsOf_B34 f x1 x2 x3 x4 x5 (nI 1))
       else
         (p_X7_swingsOf_B34 f x1 x2 x3 x4 x5 (nI 0)))
noncomputable def p_X7_swingsOf (f : Mem) (x1 : Int32) (x2 : Int32) : Option (Int32) :=
  Option.bind (p_X7_feathersOn f (nI 0) x1) <| fun r3 =>
  Option.bind (lp (p_X7_swingsOf_L13 f x1 x2 r3) ((nI 0), (nI 0))) <| fun y4_13 =>
  some y4_13
set_option maxHeartbeats 4000000 in
set_option maxRecDepth 100000 in
theorem c_X7_swingsOf (l : Launch) (G : Gt) (ad : Nat → Nat) (f : Mem) (x1 : Int32) (x2 : Int32) (r : Int32) (hf : p_X7_swingsOf f x1 x2 = some r) (sz : Nat) : Met l yX7_swingsOf wsX7_swingsOf ({ frames := 3, cells := 0, slots := 0, locals := 59 }) (Pc0 G sz [.ref (ad 0), .int x1, .int x2] (wX7 G ad f)) (Qi0 G (va_A (wX7 G ad f) sz) r (wX7 G ad f)) 0 0 (va_A (wX7 G ad f) sz) := by
  refine metP (Qf := fun A => Qi0 G A r (wX7 G ad f)) cX7_swingsOf 7 (some .int) (by decide) rfl (Nat.le_of_ble_eq_true rfl) ?_
  intro p e s m below meth c A ls hC hr hlocks hin hE hA hsz hP hD hS hl
  generalize hargs : ([.ref (ad 0), .int x1, .int x2] : List Value).toArray = args at hC ⊢
  obtain ⟨hx, hb, hml, hown, hts⟩ := id hC
  have hT : va_K G.1 vwCl (tyL G) s := hE.1
  have hRet : ∀ (r9 : Int32) (H : Heap) (locs : List Loc) (ls : Array Slot) (pc : Nat) (hK9 : r9 = r) (hdg : decode cX7_swingsOf pc = .ok (.ireturn, 1)), va_P G.1 vwCl (wX7 G ad f) H → va_D A (wX7 G ad f) → va_S A s.heap H locs → W p l e ({ frames := 3, cells := 0, slots := 0, locals := 59 }) s m args below meth c H locs 0 0 (MQ below (Qi0 G A r (wX7 G ad f)) args s 0 0 A) (F0 m pc ls [.int r9]) := by
    intro r9 H locs ls pc hK9 hdg hP hD hS
    cases hK9
    exact W.iret hx hb hr (fun t ht hW => ⟨⟨r, (), rfl, rfl, by rw [ht]; exact hP, hD⟩, hS.F ht⟩) hS.2.2 hdg hlocks
  generalize MQ below (Qi0 G A r (wX7 G ad f)) args s 0 0 A = Q at hRet ⊢
  have hl : lv_has ls 7 [(0, .ref (ad 0)), (1, .int x1), (2, .int x2)] := hl
  have hK0 : r = r := rfl
  obtain ⟨res, hres, hK⟩ : ∃ res, p_X7_swingsOf f x1 x2 = some res ∧ res = r := ⟨_, hf, rfl⟩
  clear hf
  have hf := hres
  clear hres
  unfold p_X7_swingsOf at hf
  refine lv_aload_n hx hb dX7_swingsOf_0 rfl (lv_at hl 0 rfl) ?_
  refine lv_iconst (v := (nI 0)) hx hb dX7_swingsOf_1 (ic_0) ?_
  refine lv_iload_n hx hb dX7_swingsOf_2 rfl (lv_at hl 1 rfl) ?_
  obtain ⟨r3, hc3, hf⟩ := bd_e hf
  refine cl_i_same (Wd := (wX7 G ad f)) (W' := (wX7 G ad f)) (va_runV (As := [.int (nI 0), .int x1]) (rest := []) hC (c_X7_feathersOn l G ad f (nI 0) x1 r3 hc3 _) (cwV 2 hts gX7_swingsOf_X7_feathersOn rfl rfl rfl (by decide +kernel) ⟨Nat.le_of_ble_eq_true rfl, Nat.le_of_ble_eq_true rfl⟩) ⟨Pc0_blind, va_recv hT hP (q0 := 0) (ci := 7) rfl rfl, fun U hU hW => Pc0_at hE hP hD hU hW⟩ rfl rfl hl.1 rfl (lv_room (Nat.le_of_ble_eq_true rfl)) dX7_swingsOf_3 ⟨Nat.zero_le _, Nat.zero_le _⟩) hS hA hD (fun H locs hP hD hS => ?_)
  refine lv_istore_n (lv' := [(3, .int r3), (0, .ref (ad 0)), (1, .int x1), (2, .int x2)]) hx hb dX7_swingsOf_6 rfl hl (by decide) rfl (fun ls hl => ?_)
  refine lv_iconst (v := (nI 0)) hx hb dX7_swingsOf_7 (ic_0) ?_
  refine lv_istore (lv' := [(4, .int (nI 0)), (3, .int r3), (0, .ref (ad 0)), (1, .int x1), (2, .int x2)]) hx hb dX7_swingsOf_8 hl (by decide) rfl (fun ls hl => ?_)
  refine lv_iconst (v := (nI 0)) hx hb dX7_swingsOf_10 (ic_0) ?_
  refine lv_istore (lv' := [(5, .int (nI 0)), (4, .int (nI 0)), (3, .int r3), (0, .ref (ad 0)), (1, .int x1), (2, .int x2)]) hx hb dX7_swingsOf_11 hl (by decide) rfl (fun ls hl => ?_)
  obtain ⟨y4_13, hlp, hf⟩ := bd_e hf
  refine lp_W1 (p_X7_swingsOf_L13 f x1 x2 r3) (fun z => match z with | (x4, x5) => ∀ (H : Heap) (locs : List Loc) (ls : Array Slot), va_P G.1 vwCl (wX7 G ad f) H → va_D A (wX7 G ad f) → va_S A s.heap H locs → lv_has ls 7 [(0, .ref (ad 0)), (1, .int x1), (2, .int x2), (3, .int r3), (4, .int x4), (5, .int x5)] → W p l e ({ frames := 3, cells := 0, slots := 0, locals := 59 }) s m args below meth c H locs 0 0 Q (F0 m 13 ls [])) (fun (y4_13 : Int32) => ∀ (H : Heap) (locs : List Loc) (ls : Array Slot), va_P G.1 vwCl (wX7 G ad f) H → va_D A (wX7 G ad f) → va_S A s.heap H locs → lv_has ls 7 [(4, .int y4_13)] → W p l e ({ frames := 3, cells := 0, slots := 0, locals := 59 }) s m args below meth c H locs 0 0 Q (F0 m 87 ls [])) ?_ hlp ?_ _ _ _ hP hD hS (lv_sub hl [3, 4, 5, 2, 1, 0] rfl)
  · clear hlp hf hK hP hD hS hl
    generalize r3 = x3
    intro K13 hW13 hX13 
    have hB34 : ∀ (x4 : Int32) (x5 : Int32) (s0 : Int32) (res : (Int32 × Int32) ⊕ Int32) (hf : p_X7_swingsOf_B34 f x1 x2 x3 x4 x5 s0 = some res) (hK : K13 res), ∀ (H : Heap) (locs : List Loc) (ls : Array Slot), va_P G.1 vwCl (wX7 G ad f) H → va_D A (wX7 G ad f) → va_S A s.heap H locs → lv_has ls 7 [(0, .ref (ad 0)), (1, .int x1), (2, .int x2), (3, .int x3), (4, .int x4), (5, .int x5)] → W p l e ({ frames := 3, cells := 0, slots := 0, locals := 59 }) s m args below meth c H locs 0 0 Q (F0 m 34 ls [.int s0]) := by
      intro x4 x5 s0 res hf hK H locs ls hP hD hS hl
      unfold p_X7_swingsOf_B34 at hf
      refine lv_istore (lv' := [(6, .int s0), (0, .ref (ad 0)), (1, .int x1), (2, .int x2), (3, .int x3), (4, .int x4), (5, .int x5)]) hx hb dX7_swingsOf_34 hl (by decide) rfl (fun ls hl => ?_)
      refine lv_iload hx hb dX7_swingsOf_36 (lv_at hl 5 rfl) ?_
      refine lv_iload hx hb dX7_swingsOf_38 (lv_at hl 0 rfl) ?_
      refine lv_if_eq (tgt := 77) hx hb dX7_swingsOf_40 (by decide) (fun hc => ?_) (fun hc => ?_)
      · have hf := if_t hf hc
        refine lv_iconst (v := (nI 0)) hx hb dX7_swingsOf_77 (ic_0) ?_
        refine lv_iadd hx hb dX7_swingsOf_78 ?_
        refine lv_istore (lv' := [(4, .int (x4 + (nI 0))), (6, .int s0), (0, .ref (ad 0)), (1, .int x1), (2, .int x2), (3, .int x3), (5, .int x5)]) hx hb dX7_swingsOf_79 hl (by decide) rfl (fun ls hl => ?_)
        refine lv_iinc (v := (x5 + nI 1)) (lv' := [(5, .int (x5 + nI 1)), (4, .int (x4 + (nI 0))), (6, .int s0), (0, .ref (ad 0)), (1, .int x1), (2, .int x2), (3, .int x3)]) hx hb dX7_swingsOf_81 hl (k := 6) rfl (ii_x 1 _) (by decide) rfl (fun ls hl => ?_)
        refine lv_goto (tgt := 13) hx hb dX7_swingsOf_84 (by decide) ?_
        have hK9 := K_of hf hK
        have hK9 := hW13 _ hK9
        exact hK9 _ _ _ hP hD hS (lv_sub hl [3, 4, 5, 6, 1, 0] rfl)
      · have hf := if_f hf hc
        refine lv_iconst (v := (nI 2)) hx hb dX7_swingsOf_43 (ic_2) ?_
        refine lv_aload_n hx hb dX7_swingsOf_44 rfl (lv_at hl 1 rfl) ?_
        refine lv_iload_n hx hb dX7_swingsOf_45 rfl (lv_at hl 2 rfl) ?_
        refine lv_iload hx hb dX7_swingsOf_46 (lv_at hl 6 rfl) ?_
        obtain ⟨r48, hc48, hf⟩ := bd_e hf
        refine cl_i_same (Wd := (wX7 G ad f)) (W' := (wX7 G ad f)) (va_runV (As := [.int x1, .int x5]) (rest := [.int (nI 2), .int x4]) hC (c_X7_sumOf l G ad f x1 x5 r48 hc48 _) (cwV 2 hts gX7_swingsOf_X7_sumOf rfl rfl rfl (by decide +kernel) ⟨Nat.le_of_ble_eq_true rfl, Nat.le_of_ble_eq_true rfl⟩) ⟨Pc0_blind, va_recv hT hP (q0 := 0) (ci := 7) rfl rfl, fun U hU hW => Pc0_at hE hP hD hU hW⟩ rfl rfl hl.1 rfl (lv_room (Nat.le_of_ble_eq_true rfl)) dX7_swingsOf_48 ⟨Nat.zero_le _, Nat.zero_le _⟩) hS hA hD (fun H locs hP hD hS => ?_)
        refine lv_imul hx hb dX7_swingsOf_51 ?_
        refine lv_iload_n hx hb dX7_swingsOf_52 rfl (lv_at hl 4 rfl) ?_
        refine lv_icmp_gt (tgt := 77) hx hb dX7_swingsOf_53 (by decide) (fun hc => ?_) (fun hc => ?_)
        · have hf := if_t hf hc
          refine lv_iconst (v := (nI 0)) hx hb dX7_swingsOf_77 (ic_0) ?_
          refine lv_iadd hx hb dX7_swingsOf_78 ?_
          refine lv_istore (lv' := [(4, .int (x4 + (nI 0))), (6, .int s0), (0, .ref (ad 0)), (1, .int x1), (2, .int x2), (3, .int x3), (5, .int x5)]) hx hb dX7_swingsOf_79 hl (by decide) rfl (fun ls hl => ?_)
          refine lv_iinc (v := (x5 + nI 1)) (lv' := [(5, .int (x5 + nI 1)), (4, .int (x4 + (nI 0))), (6, .int s0), (0, .ref (ad 0)), (1, .int x1), (2, .int x2), (3, .int x3)]) hx hb dX7_swingsOf_81 hl (k := 6) rfl (ii_x 1 _) (by decide) rfl (fun ls hl => ?_)
          refine lv_goto (tgt := 13) hx hb dX7_swingsOf_84 (by decide) ?_
          have hK9 := K_of hf hK
          have hK9 := hW13 _ hK9
          exact hK9 _ _ _ hP hD hS (lv_sub hl [3, 4, 5, 6, 1, 0] rfl)
        · have hf := if_f hf hc
          refine lv_iconst (v := (nI 2)) hx hb dX7_swingsOf_56 (ic_2) ?_
          refine lv_aload_n hx hb dX7_swingsOf_57 rfl (lv_at hl 1 rfl) ?_
          refine lv_iload_n hx hb dX7_swingsOf_58 rfl (lv_at hl 2 rfl) ?_
          refine lv_iload hx hb dX7_swingsOf_59 (lv_at hl 6 rfl) ?_
          refine lv_iconst (v := (nI 1)) hx hb dX7_swingsOf_61 (ic_1) ?_
          refine lv_iload_n hx hb dX7_swingsOf_62 rfl (lv_at hl 3 rfl) ?_
          refine lv_ishl hx hb dX7_swingsOf_63 ?_
          refine lv_ior hx hb dX7_swingsOf_64 ?_
          obtain ⟨r65, hc65, hf⟩ := bd_e hf
          refine cl_i_same (Wd := (wX7 G ad f)) (W' := (wX7 G ad f)) (va_runV (As := [.int x1, .int (x5 ||| ((nI 1) <<< (x2 &&& 31)))]) (rest := [.int (nI 2), .int x4]) hC (c_X7_sumOf l G ad f x1 (x5 ||| ((nI 1) <<< (x2 &&& 31))) r65 hc65 _) (cwV 2 hts gX7_swingsOf_X7_sumOf rfl rfl rfl (by decide +kernel) ⟨Nat.le_of_ble_eq_true rfl, Nat.le_of_ble_eq_true rfl⟩) ⟨Pc0_blind, va_recv hT hP (q0 := 0) (ci := 7) rfl rfl, fun U hU hW => Pc0_at hE hP hD hU hW⟩ rfl rfl hl.1 rfl (lv_room (Nat.le_of_ble_eq_true rfl)) dX7_swingsOf_65 ⟨Nat.zero_le _, Nat.zero_le _⟩) hS hA hD (fun H locs hP hD hS => ?_)
          refine lv_imul hx hb dX7_swingsOf_68 ?_
          refine lv_iload_n hx hb dX7_swingsOf_69 rfl (lv_at hl 4 rfl) ?_
          refine lv_icmp_le (tgt := 77) hx hb dX7_swingsOf_70 (by decide) (fun hc => ?_) (fun hc => ?_)
          · have hf := if_t hf hc
            refine lv_iconst (v := (nI 0)) hx hb dX7_swingsOf_77 (ic_0) ?_
            refine lv_iadd hx hb dX7_swingsOf_78 ?_
            refine lv_istore (lv' := [(4, .int (x4 + (nI 0))), (6, .int s0), (0, .ref (ad 0)), (1, .int x1), (2, .int x2), (3, .int x3), (5, .int x5)]) hx hb dX7_swingsOf_79 hl (by decide) rfl (fun ls hl => ?_)
            refine lv_iinc (v := (x5 + nI 1)) (lv' := [(5, .int (x5 + nI 1)), (4, .int (x4 + (nI 0))), (6, .int s0), (0, .ref (ad 0)), (1, .int x1), (2, .int x2), (3, .int x3)]) hx hb dX7_swingsOf_81 hl (k := 6) rfl (ii_x 1 _) (by decide) rfl (fun ls hl => ?_)
            refine lv_goto (tgt := 13) hx hb dX7_swingsOf_84 (by decide) ?_
            have hK9 := K_of hf hK
            have hK9 := hW13 _ hK9
            exact hK9 _ _ _ hP hD hS (lv_sub hl [3, 4, 5, 6, 1, 0] rfl)
          · have hf := if_f hf hc
            refine lv_iconst (v := (nI 1)) hx hb dX7_swingsOf_73 (ic_1) ?_
            refine lv_goto (tgt := 78) hx hb dX7_swingsOf_74 (by decide) ?_
            refine lv_iadd hx hb dX7_swingsOf_78 ?_
            refine lv_istore (lv' := [(4, .int (x4 + (nI 1))), (6, .int s0), (0, .ref (ad 0)), (1, .int x1), (2, .int x2), (3, .int x3), (5, .int x5)]) hx hb dX7_swingsOf_79 hl (by decide) rfl (fun ls hl => ?_)
            refine lv_iinc (v := (x5 + nI 1)) (lv' := [(5, .int (x5 + nI 1)), (4, .int (x4 + (nI 1))), (6, .int s0), (0, .ref (ad 0)), (1, .int x1), (2, .int x2), (3, .int x3)]) hx hb dX7_swingsOf_81 hl (k := 6) rfl (ii_x 1 _) (by decide) rfl (fun ls hl => ?_)
            refine lv_goto (tgt := 13) hx hb dX7_swingsOf_84 (by decide) ?_
            have hK9 := K_of hf hK
            have hK9 := hW13 _ hK9
            exact hK9 _ _ _ hP hD hS (lv_sub hl [3, 4, 5, 6, 1, 0] rfl)
    rintro ⟨x4, x5⟩ res hf hK H locs ls hP hD hS hl
    unfold p_X7_swingsOf_L13 at hf
    dsimp only at hf
    refine lv_iload hx hb dX7_swingsOf_13 (lv_at hl 5 rfl) ?_
    refine lv_bipush (v := (nI 32)) hx hb dX7_swingsOf_15 (bi_32) ?_
    refine lv_icmp_ge (tgt := 87) hx hb dX7_swingsOf_17 (by decide) (fun hc => ?_) (fun hc => ?_)
    · have hf := if_t hf hc
      have hK9 := K_of hf hK
      have hK9 := hX13 _ hK9
      exact hK9 _ _ _ hP hD hS (lv_sub hl [4] rfl)
    · have hf := if_f hf hc
      refine lv_iload hx hb dX7_swingsOf_20 (lv_at hl 5 rfl) ?_
      refine lv_iload_n hx hb dX7_swingsOf_22 rfl (lv_at hl 2 rfl) ?_
      refine lv_ishr hx hb dX7_swingsOf_23 ?_
      refine lv_iconst (v := (nI 1)) hx hb dX7_swingsOf_24 (ic_1) ?_
      refine lv_iand hx hb dX7_swingsOf_25 ?_
      refine lv_if_ne (tgt := 33) hx hb dX7_swingsOf_26 (by decide) (fun hc => ?_) (fun hc => ?_)
      · have hf := if_f hf hc
        refine lv_iconst (v := (nI 0)) hx hb dX7_swingsOf_33 (ic_0) ?_
        exact hB34 x4 x5 (nI 0) _ hf hK _ _ _ hP hD hS (lv_sub hl [0, 1, 2, 3, 4, 5] rfl)
      · have hf := if_t hf hc
        refine lv_iconst (v := (nI 1)) hx hb dX7_swingsOf_29 (ic_1) ?_
        refine lv_goto (tgt := 34) hx hb dX7_swingsOf_30 (by decide) ?_
        exact hB34 x4 x5 (nI 1) _ hf hK _ _ _ hP hD hS (lv_sub hl [0, 1, 2, 3, 4, 5] rfl)
  · try dsimp only at hf
    show ∀ (H : Heap) (locs : List Loc) (ls : Array Slot), va_P G.1 vwCl (wX7 G ad f) H → va_D A (wX7 G ad f) → va_S A s.heap H locs → lv_has ls 7 [(4, .int y4_13)] → W p l e ({ frames := 3, cells := 0, slots := 0, locals := 59 }) s m args below meth c H locs 0 0 Q (F0 m 87 ls [])
    intro H locs ls hP hD hS hl
    refine lv_iload hx hb dX7_swingsOf_87 (lv_at hl 0 rfl) ?_
    have hK9 := K0_of hf hK
    exact hRet y4_13 _ _ _ _ hK9 dX7_swingsOf_89 hP hD hS
noncomputable def p_X7_swings (f : Mem) (x1 : Int32) (x2 : Int32) : Option (Int32) :=
  Option.bind (p_X7_isGoose f x1) <| fun r2 =>
  if r2 = 0 then
    (some (-1 : Int32))
  else
    (Option.bind (p_X7_isOwner x2) <| fun r9 =>
     if r9 = 0 then
       (some (-1 : Int32))
     else
       (Option.bind (p_X7_swingsOf f x1 x2) <| fun r18 =>
        some r18))
set_option maxHeartbeats 4000000 in
set_option maxRecDepth 100000 in
theorem c_X7_swings (l : Launch) (G : Gt) (ad : Nat → Nat) (f : Mem) (x1 : Int32) (x2 : Int32) (r : Int32) (hf : p_X7_swings f x1 x2 = some r) (sz : Nat) : Met l yX7_swings wsX7_swings ({ frames := 4, cells := 0, slots := 0, locals := 85 }) (Pc0 G sz [.ref (ad 0), .int x1, .int x2] (wX7 G ad f)) (Qi0 G (va_A (wX7 G ad f) sz) r (wX7 G ad f)) 0 0 (va_A (wX7 G ad f) sz) := by
  refine metP (Qf := fun A => Qi0 G A r (wX7 G ad f)) cX7_swings 3 (some .int) (by decide) rfl (Nat.le_of_ble_eq_true rfl) ?_
  intro p e s m below meth c A ls hC hr hlocks hin hE hA hsz hP hD hS hl
  generalize hargs : ([.ref (ad 0), .int x1, .int x2] : List Value).toArray = args at hC ⊢
  obtain ⟨hx, hb, hml, hown, hts⟩ := id hC
  have hT : va_K G.1 vwCl (tyL G) s := hE.1
  have hRet : ∀ (r9 : Int32) (H : Heap) (locs : List Loc) (ls : Array Slot) (pc : Nat) (hK9 : r9 = r) (hdg : decode cX7_swings pc = .ok (.ireturn, 1)), va_P G.1 vwCl (wX7 G ad f) H → va_D A (wX7 G ad f) → va_S A s.heap H locs → W p l e ({ frames := 4, cells := 0, slots := 0, locals := 85 }) s m args below meth c H locs 0 0 (MQ below (Qi0 G A r (wX7 G ad f)) args s 0 0 A) (F0 m pc ls [.int r9]) := by
    intro r9 H locs ls pc hK9 hdg hP hD hS
    cases hK9
    exact W.iret hx hb hr (fun t ht hW => ⟨⟨r, (), rfl, rfl, by rw [ht]; exact hP, hD⟩, hS.F ht⟩) hS.2.2 hdg hlocks
  generalize MQ below (Qi0 G A r (wX7 G ad f)) args s 0 0 A = Q at hRet ⊢
  have hl : lv_has ls 3 [(0, .ref (ad 0)), (1, .int x1), (2, .int x2)] := hl
  have hK0 : r = r := rfl
  obtain ⟨res, hres, hK⟩ : ∃ res, p_X7_swings f x1 x2 = some res ∧ res = r := ⟨_, hf, rfl⟩
  clear hf
  have hf := hres
  clear hres
  unfold p_X7_swings at hf
  refine lv_aload_n hx hb dX7_swings_0 rfl (lv_at hl 0 rfl) ?_
  refine lv_iload_n hx hb dX7_swings_1 rfl (lv_at hl 1 rfl) ?_
  obtain ⟨r2, hc2, hf⟩ := bd_e hf
  refine cl_z_same (Wd := (wX7 G ad f)) (W' := (wX7 G ad f)) (va_runV (As := [.int x1]) (rest := []) hC (c_X7_isGoose l G ad f x1 r2 hc2 _) (cwV 1 hts gX7_swings_X7_isGoose rfl rfl rfl (by decide +kernel) ⟨Nat.le_of_ble_eq_true rfl, Nat.le_of_ble_eq_true rfl⟩) ⟨Pc0_blind, va_recv hT hP (q0 := 0) (ci := 7) rfl rfl, fun U hU hW => Pc0_at hE hP hD hU hW⟩ rfl rfl hl.1 rfl (lv_room (Nat.le_of_ble_eq_true rfl)) dX7_swings_2 ⟨Nat.zero_le _, Nat.zero_le _⟩) hS hA hD (fun H locs hn2 hP hD hS => ?_)
  refine lv_if_eq (tgt := 24) hx hb dX7_swings_5 (by decide) (fun hc => ?_) (fun hc => ?_)
  · have hf := if_t hf hc
    refine lv_iconst (v := (-1 : Int32)) hx hb dX7_swings_24 (ic_m1) ?_
    have hK9 := K0_of hf hK
    exact hRet (-1 : Int32) _ _ _ _ hK9 dX7_swings_25 hP hD hS
  · have hf := if_f hf hc
    refine lv_iload_n hx hb dX7_swings_8 rfl (lv_at hl 2 rfl) ?_
    obtain ⟨r9, hc9, hf⟩ := bd_e hf
    refine cl_z_ro (Wd := (wX7 G ad f)) (Wc := ([] : va_W)) [] rfl (va_runS (As := [.int x2]) (rest := []) hC (c_X7_isOwner l G x2 r9 hc9 _) (va_cwS 1 hts gX7_swings_X7_isOwner rfl rfl rfl (by decide +kernel) ⟨Nat.le_of_ble_eq_true rfl, Nat.le_of_ble_eq_true rfl⟩) ⟨Pc0_blind, fun U hU hW => Pc0_at (Wd := ([] : va_W)) hE (hP.subm [] rfl) (hD.sub [] (by decide) rfl) hU hW⟩ rfl rfl hl.1 rfl (lv_room (Nat.le_of_ble_eq_true rfl)) dX7_swings_9 ⟨Nat.zero_le _, Nat.zero_le _⟩) hS hA hP hD (fun H locs hn9 hP hD hS => ?_)
    refine lv_if_eq (tgt := 24) hx hb dX7_swings_12 (by decide) (fun hc => ?_) (fun hc => ?_)
    · have hf := if_t hf hc
      refine lv_iconst (v := (-1 : Int32)) hx hb dX7_swings_24 (ic_m1) ?_
      have hK9 := K0_of hf hK
      exact hRet (-1 : Int32) _ _ _ _ hK9 dX7_swings_25 hP hD hS
    · have hf := if_f hf hc
      refine lv_aload_n hx hb dX7_swings_15 rfl (lv_at hl 0 rfl) ?_
      refine lv_iload_n hx hb dX7_swings_16 rfl (lv_at hl 1 rfl) ?_
      refine lv_iload_n hx hb dX7_swings_17 rfl (lv_at hl 2 rfl) ?_
      obtain ⟨r18, hc18, hf⟩ := bd_e hf
      refine cl_i_same (Wd := (wX7 G ad f)) (W' := (wX7 G ad f)) (va_runV (As := [.int x1, .int x2]) (rest := []) hC (c_X7_swingsOf l G ad f x1 x2 r18 hc18 _) (cwV 2 hts gX7_swings_X7_swingsOf rfl rfl rfl (by decide +kernel) ⟨Nat.le_of_ble_eq_true rfl, Nat.le_of_ble_eq_true rfl⟩) ⟨Pc0_blind, va_recv hT hP (q0 := 0) (ci := 7) rfl rfl, fun U hU hW => Pc0_at hE hP hD hU hW⟩ rfl rfl hl.1 rfl (lv_room (Nat.le_of_ble_eq_true rfl)) dX7_swings_18 ⟨Nat.zero_le _, Nat.zero_le _⟩) hS hA hD (fun H locs hP hD hS => ?_)
      refine lv_goto (tgt := 25) hx hb dX7_swings_21 (by decide) ?_
      have hK9 := K0_of hf hK
      exact hRet r18 _ _ _ _ hK9 dX7_swings_25 hP hD hS
noncomputable def p_X7_lowest_B41 (x5 : Int64) (s0 : Int64) : Option (Int64) :=
  gd (nzL x5) <|
  some (s0 / x5)
noncomputable def p_X7_lowest_L6 (x0 : Int64) (x2 : Int64) (x4 : Int32) (z : Int64 × Int64) : Option ((Int64 × Int64) ⊕ Int64) :=
  match z with
  | (x5, x7) =>
    if (lg_cmp x7 (lN 0)) = 0 then
      (some (Sum.inr x5))
    else
      (gd (nzL x7) <|
       some (Sum.inl (x7, (x5 - x5 / x7 * x7))))
noncomputable def p_X7_lowest (x0 : Int64) (x2 : Int64) (x4 : Int32) : Option (Int64) :=
  Option.bind (lp (p_X7_lowest_L6 x0 x2 x4) (x0, x2)) <| fun y5_6 =>
  if x4 = 0 then
    (p_X7_lowest_B41 y5_6 x0)
  else
    (p_X7_lowest_B41 y5_6 x2)
set_option maxHeartbeats 4000000 in
set_option maxRecDepth 100000 in
theorem c_X7_lowest (l : Launch) (G : Gt)  (x0 : Int64) (x2 : Int64) (x4 : Int32) (r : Int64) (hf : p_X7_lowest x0 x2 x4 = some r) (sz : Nat) : Met l yX7_lowest wsX7_lowest ({ frames := 1, cells := 0, slots := 0, locals := 12 }) (Pc0 G sz [.long x0, .long x2, .int x4] ([] : va_W)) (Ql0 G (va_A ([] : va_W) sz) r ([] : va_W)) 0 0 (va_A ([] : va_W) sz) := by
  refine metP (Qf := fun A => Ql0 G A r ([] : va_W)) cX7_lowest 11 (some .long) (by decide) rfl (Nat.le_of_ble_eq_true rfl) ?_
  intro p e s m below meth c A ls hC hr hlocks hin hE hA hsz hP hD hS hl
  generalize hargs : ([.long x0, .long x2, .int x4] : List Value).toArray = args at hC ⊢
  obtain ⟨hx, hb, hml, hown, hts⟩ := id hC
  have hT : va_K G.1 vwCl (tyL G) s := hE.1
  have hRet : ∀ (r9 : Int64) (H : Heap) (locs : List Loc) (ls : Array Slot) (pc : Nat) (hK9 : r9 = r) (hdg : decode cX7_lowest pc = .ok (.lreturn, 1)), va_P G.1 vwCl ([] : va_W) H → va_D A ([] : va_W) → va_S A s.heap H locs → W p l e ({ frames := 1, cells := 0, slots := 0, locals := 12 }) s m args below meth c H locs 0 0 (MQ below (Ql0 G A r ([] : va_W)) args s 0 0 A) (F0 m pc ls [.long r9]) := by
    intro r9 H locs ls pc hK9 hdg hP hD hS
    cases hK9
    exact W.lret hx hb hr (fun t ht hW => ⟨⟨r, (), rfl, rfl, by rw [ht]; exact hP, hD⟩, hS.F ht⟩) hS.2.2 hdg hlocks
  generalize MQ below (Ql0 G A r ([] : va_W)) args s 0 0 A = Q at hRet ⊢
  have hl : lv_has ls 11 [(0, .long x0), (2, .long x2), (4, .int x4)] := hl
  have hK0 : r = r := rfl
  have hB41 : ∀ (x5 : Int64) (s0 : Int64) (res : Int64) (hf : p_X7_lowest_B41 x5 s0 = some res) (hK : res = r), ∀ (H : Heap) (locs : List Loc) (ls : Array Slot), va_P G.1 vwCl ([] : va_W) H → va_D A ([] : va_W) → va_S A s.heap H locs → lv_has ls 11 [(5, .long x5)] → W p l e ({ frames := 1, cells := 0, slots := 0, locals := 12 }) s m args below meth c H locs 0 0 Q (F0 m 41 ls [.long s0]) := by
    intro x5 s0 res hf hK H locs ls hP hD hS hl
    unfold p_X7_lowest_B41 at hf
    refine lv_lload hx hb dX7_lowest_41 (lv_at hl 0 rfl) ?_
    obtain ⟨hg, hf⟩ := gd_e hf
    refine lv_ldiv hx hb dX7_lowest_43 (nzL_e hg) ?_
    have hK9 := K0_of hf hK
    exact hRet (s0 / x5) _ _ _ _ hK9 dX7_lowest_44 hP hD hS
  obtain ⟨res, hres, hK⟩ : ∃ res, p_X7_lowest x0 x2 x4 = some res ∧ res = r := ⟨_, hf, rfl⟩
  clear hf
  have hf := hres
  clear hres
  unfold p_X7_lowest at hf
  refine lv_lload_n hx hb dX7_lowest_0 rfl (lv_at hl 0 rfl) ?_
  refine lv_lstore (lv' := [(5, .long x0), (0, .long x0), (2, .long x2), (4, .int x4)]) hx hb dX7_lowest_1 hl (by decide) rfl (fun ls hl => ?_)
  refine lv_lload_n hx hb dX7_lowest_3 rfl (lv_at hl 2 rfl) ?_
  refine lv_lstore (lv' := [(7, .long x2), (5, .long x0), (0, .long x0), (2, .long x2), (4, .int x4)]) hx hb dX7_lowest_4 hl (by decide) rfl (fun ls hl => ?_)
  obtain ⟨y5_6, hlp, hf⟩ := bd_e hf
  refine lp_W1 (p_X7_lowest_L6 x0 x2 x4) (fun z => match z with | (x5, x7) => ∀ (H : Heap) (locs : List Loc) (ls : Array Slot), va_P G.1 vwCl ([] : va_W) H → va_D A ([] : va_W) → va_S A s.heap H locs → lv_has ls 11 [(0, .long x0), (2, .long x2), (4, .int x4), (5, .long x5), (7, .long x7)] → W p l e ({ frames := 1, cells := 0, slots := 0, locals := 12 }) s m args below meth c H locs 0 0 Q (F0 m 6 ls [])) (fun (y5_6 : Int64) => ∀ (H : Heap) (locs : List Loc) (ls : Array Slot), va_P G.1 vwCl ([] : va_W) H → va_D A ([] : va_W) → va_S A s.heap H locs → lv_has ls 11 [(0, .long x0), (2, .long x2), (4, .int x4), (5, .long y5_6)] → W p l e ({ frames := 1, cells := 0, slots := 0, locals := 12 }) s m args below meth c H locs 0 0 Q (F0 m 31 ls [])) ?_ hlp ?_ _ _ _ hP hD hS (lv_sub hl [2, 3, 4, 1, 0] rfl)
  · clear hlp hf hK hP hD hS hl
    intro K6 hW6 hX6 
    rintro ⟨x5, x7⟩ res hf hK H locs ls hP hD hS hl
    unfold p_X7_lowest_L6 at hf
    dsimp only at hf
    refine lv_lload hx hb dX7_lowest_6 (lv_at hl 4 rfl) ?_
    refine lv_lconst (v := (lN 0)) hx hb dX7_lowest_8 rfl ?_
    refine W.lcmp hx hb dX7_lowest_9 ?_
    refine lv_if_eq (tgt := 31) hx hb dX7_lowest_10 (by decide) (fun hc => ?_) (fun hc => ?_)
    · have hf := if_t hf hc
      have hK9 := K_of hf hK
      have hK9 := hX6 _ hK9
      exact hK9 _ _ _ hP hD hS (lv_sub hl [0, 1, 2, 3] rfl)
    · have hf := if_f hf hc
      refine lv_lload hx hb dX7_lowest_13 (lv_at hl 3 rfl) ?_
      refine lv_lload hx hb dX7_lowest_15 (lv_at hl 4 rfl) ?_
      obtain ⟨hg, hf⟩ := gd_e hf
      refine lv_lrem hx hb dX7_lowest_17 (nzL_e hg) ?_
      refine lv_lstore (lv' := [(9, .long (x5 - x5 / x7 * x7)), (0, .long x0), (2, .long x2), (4, .int x4), (5, .long x5), (7, .long x7)]) hx hb dX7_lowest_18 hl (by decide) rfl (fun ls hl => ?_)
      refine lv_lload hx hb dX7_lowest_20 (lv_at hl 5 rfl) ?_
      refine lv_lstore (lv' := [(5, .long x7), (9, .long (x5 - x5 / x7 * x7)), (0, .long x0), (2, .long x2), (4, .int x4), (7, .long x7)]) hx hb dX7_lowest_22 hl (by decide) rfl (fun ls hl => ?_)
      refine lv_lload hx hb dX7_lowest_24 (lv_at hl 1 rfl) ?_
      refine lv_lstore (lv' := [(7, .long (x5 - x5 / x7 * x7)), (5, .long x7), (9, .long (x5 - x5 / x7 * x7)), (0, .long x0), (2, .long x2), (4, .int x4)]) hx hb dX7_lowest_26 hl (by decide) rfl (fun ls hl => ?_)
      refine lv_goto (tgt := 6) hx hb dX7_lowest_28 (by decide) ?_
      have hK9 := K_of hf hK
      have hK9 := hW6 _ hK9
      exact hK9 _ _ _ hP hD hS (lv_sub hl [3, 4, 5, 1, 0] rfl)
  · try dsimp only at hf
    show ∀ (H : Heap) (locs : List Loc) (ls : Array Slot), va_P G.1 vwCl ([] : va_W) H → va_D A ([] : va_W) → va_S A s.heap H locs → lv_has ls 11 [(0, .long x0), (2, .long x2), (4, .int x4), (5, .long y5_6)] → W p l e ({ frames := 1, cells := 0, slots := 0, locals := 12 }) s m args below meth c H locs 0 0 Q (F0 m 31 ls [])
    intro H locs ls hP hD hS hl
    refine lv_iload hx hb dX7_lowest_31 (lv_at hl 2 rfl) ?_
    refine lv_if_ne (tgt := 40) hx hb dX7_lowest_33 (by decide) (fun hc => ?_) (fun hc => ?_)
    · have hf := if_f hf hc
      refine lv_lload_n hx hb dX7_lowest_40 rfl (lv_at hl 1 rfl) ?_
      exact hB41 y5_6 x2 _ hf hK _ _ _ hP hD hS (lv_sub hl [3] rfl)
    · have hf := if_t hf hc
      refine lv_lload_n hx hb dX7_lowest_36 rfl (lv_at hl 0 rfl) ?_
      refine lv_goto (tgt := 41) hx hb dX7_lowest_37 (by decide) ?_
      exact hB41 y5_6 x0 _ hf hK _ _ _ hP hD hS (lv_sub hl [3] rfl)
noncomputable def p_X7_power_B25 (f : Mem) : Option (Int64) :=
  some (-1 : Int64)
noncomputable def p_X7_power_B78 (f : Mem) (x3 : Int32) (s0 : Int64) (s1 : Int64) : Option (Int64) :=
  Option.bind (p_X7_lowest s1 s0 x3) <| fun r79 =>
  some r79
noncomputable def p_X7_power_L35 (f : Mem) (x1 : Int32) (x2 : Int32) (x3 : Int32) (z : Int32 × Int32) : Option ((Int32 × Int32) ⊕ Int32) :=
  match z with
  | (x4, x5) =>
    if (nI 5) ≤ x5 then
      (some (Sum.inr x4))
    else
      (Option.bind (p_X7_swingsOf f x1 x5) <| fun r47 =>
       some (Sum.inl ((x4 + r47), (x5 + nI 1))))
noncomputable def p_X7_power (f : Mem) (x1 : Int32) (x2 : Int32) (x3 : Int32) : Option (Int64) :=
  Option.bind (p_X7_isGoose f x1) <| fun r2 =>
  if r2 = 0 then
    (p_X7_power_B25 f)
  else
    (Option.bind (p_X7_isOwner x2) <| fun r9 =>
     if r9 = 0 then
       (p_X7_power_B25 f)
     else
       (Option.bind (p_X7_in ((x3).toInt64) (lN 0) (lN 1)) <| fun r19 =>
        if r19 = 0 then
          (p_X7_power_B25 f)
        else
          (Option.bind (lp (p_X7_power_L35 f x1 x2 x3) ((nI 0), (nI 0))) <| fun y4_35 =>
           Option.bind (p_X7_swingsOf f x1 x2) <| fun r62 =>
           if y4_35 = 0 then
             (p_X7_power_B78 f x3 (lN 1) ((r62).toInt64))
           else
             (p_X7_power_B78 f x3 ((y4_35).toInt64) ((r62).toInt64)))))
set_option maxHeartbeats 4000000 in
set_option maxRecDepth 100000 in
theorem c_X7_power (l : Launch) (G : Gt) (ad : Nat → Nat) (f : Mem) (x1 : Int32) (x2 : Int32) (x3 : Int32) (r : Int64) (hf : p_X7_power f x1 x2 x3 = some r) (sz : Nat) : Met l yX7_power wsX7_power ({ frames := 4, cells := 0, slots := 0, locals := 85 }) (Pc0 G sz [.ref (ad 0), .int x1, .int x2, .int x3] (wX7 G ad f)) (Ql0 G (va_A (wX7 G ad f) sz) r (wX7 G ad f)) 0 0 (va_A (wX7 G ad f) sz) := by
  refine metP (Qf := fun A => Ql0 G A r (wX7 G ad f)) cX7_power 6 (some .long) (by decide) rfl (Nat.le_of_ble_eq_true rfl) ?_
  intro p e s m below meth c A ls hC hr hlocks hin hE hA hsz hP hD hS hl
  generalize hargs : ([.ref (ad 0), .int x1, .int x2, .int x3] : List Value).toArray = args at hC ⊢
  obtain ⟨hx, hb, hml, hown, hts⟩ := id hC
  have hT : va_K G.1 vwCl (tyL G) s := hE.1
  have hRet : ∀ (r9 : Int64) (H : Heap) (locs : List Loc) (ls : Array Slot) (pc : Nat) (hK9 : r9 = r) (hdg : decode cX7_power pc = .ok (.lreturn, 1)), va_P G.1 vwCl (wX7 G ad f) H → va_D A (wX7 G ad f) → va_S A s.heap H locs → W p l e ({ frames := 4, cells := 0, slots := 0, locals := 85 }) s m args below meth c H locs 0 0 (MQ below (Ql0 G A r (wX7 G ad f)) args s 0 0 A) (F0 m pc ls [.long r9]) := by
    intro r9 H locs ls pc hK9 hdg hP hD hS
    cases hK9
    exact W.lret hx hb hr (fun t ht hW => ⟨⟨r, (), rfl, rfl, by rw [ht]; exact hP, hD⟩, hS.F ht⟩) hS.2.2 hdg hlocks
  generalize MQ below (Ql0 G A r (wX7 G ad f)) args s 0 0 A = Q at hRet ⊢
  have hl : lv_has ls 6 [(0, .ref (ad 0)), (1, .int x1), (2, .int x2), (3, .int x3)] := hl
  have hK0 : r = r := rfl
  have hB25 : ∀  (res : Int64) (hf : p_X7_power_B25 f = some res) (hK : res = r), ∀ (H : Heap) (locs : List Loc) (ls : Array Slot), va_P G.1 vwCl (wX7 G ad f) H → va_D A (wX7 G ad f) → va_S A s.heap H locs → lv_has ls 6 [] → W p l e ({ frames := 4, cells := 0, slots := 0, locals := 85 }) s m args below meth c H locs 0 0 Q (F0 m 25 ls []) := by
    intro  res hf hK H locs ls hP hD hS hl
    unfold p_X7_power_B25 at hf
    refine W.ldc2 (v := (-1 : Int64)) hx hb hown (hts (.constantLong RX7 268 (-1 : Int64)) (by decide +kernel)) rfl dX7_power_25 ?_
    refine W.eq (g2 := F0 m 28 ls [.long (-1 : Int64)]) rfl ?_
    have hK9 := K0_of hf hK
    exact hRet (-1 : Int64) _ _ _ _ hK9 dX7_power_28 hP hD hS
  have hB78 : ∀ (x3 : Int32) (s0 : Int64) (s1 : Int64) (res : Int64) (hf : p_X7_power_B78 f x3 s0 s1 = some res) (hK : res = r), ∀ (H : Heap) (locs : List Loc) (ls : Array Slot), va_P G.1 vwCl (wX7 G ad f) H → va_D A (wX7 G ad f) → va_S A s.heap H locs → lv_has ls 6 [(3, .int x3)] → W p l e ({ frames := 4, cells := 0, slots := 0, locals := 85 }) s m args below meth c H locs 0 0 Q (F0 m 78 ls [.long s0, .long s1]) := by
    intro x3 s0 s1 res hf hK H locs ls hP hD hS hl
    unfold p_X7_power_B78 at hf
    refine lv_iload_n hx hb dX7_power_78 rfl (lv_at hl 0 rfl) ?_
    obtain ⟨r79, hc79, hf⟩ := bd_e hf
    refine cl_l_ro (Wd := (wX7 G ad f)) (Wc := ([] : va_W)) [] rfl (va_runS (As := [.long s1, .long s0, .int x3]) (rest := []) hC (c_X7_lowest l G s1 s0 x3 r79 hc79 _) (va_cwS 3 hts gX7_power_X7_lowest rfl rfl rfl (by decide +kernel) ⟨Nat.le_of_ble_eq_true rfl, Nat.le_of_ble_eq_true rfl⟩) ⟨Pc0_blind, fun U hU hW => Pc0_at (Wd := ([] : va_W)) hE (hP.subm [] rfl) (hD.sub [] (by decide) rfl) hU hW⟩ rfl rfl hl.1 rfl (lv_room (Nat.le_of_ble_eq_true rfl)) dX7_power_79 ⟨Nat.zero_le _, Nat.zero_le _⟩) hS hA hP hD (fun H locs hP hD hS => ?_)
    have hK9 := K0_of hf hK
    exact hRet r79 _ _ _ _ hK9 dX7_power_82 hP hD hS
  obtain ⟨res, hres, hK⟩ : ∃ res, p_X7_power f x1 x2 x3 = some res ∧ res = r := ⟨_, hf, rfl⟩
  clear hf
  have hf := hres
  clear hres
  unfold p_X7_power at hf
  refine lv_aload_n hx hb dX7_power_0 rfl (lv_at hl 0 rfl) ?_
  refine lv_iload_n hx hb dX7_power_1 rfl (lv_at hl 1 rfl) ?_
  obtain ⟨r2, hc2, hf⟩ := bd_e hf
  refine cl_z_same (Wd := (wX7 G ad f)) (W' := (wX7 G ad f)) (va_runV (As := [.int x1]) (rest := []) hC (c_X7_isGoose l G ad f x1 r2 hc2 _) (cwV 1 hts gX7_power_X7_isGoose rfl rfl rfl (by decide +kernel) ⟨Nat.le_of_ble_eq_true rfl, Nat.le_of_ble_eq_true rfl⟩) ⟨Pc0_blind, va_recv hT hP (q0 := 0) (ci := 7) rfl rfl, fun U hU hW => Pc0_at hE hP hD hU hW⟩ rfl rfl hl.1 rfl (lv_room (Nat.le_of_ble_eq_true rfl)) dX7_power_2 ⟨Nat.zero_le _, Nat.zero_le _⟩) hS hA hD (fun H locs hn2 hP hD hS => ?_)
  refine lv_if_eq (tgt := 25) hx hb dX7_power_5 (by decide) (fun hc => ?_) (fun hc => ?_)
  · have hf := if_t hf hc
    exact hB25  _ hf hK _ _ _ hP hD hS (lv_sub hl [] rfl)
  · have hf := if_f hf hc
    refine lv_iload_n hx hb dX7_power_8 rfl (lv_at hl 2 rfl) ?_
    obtain ⟨r9, hc9, hf⟩ := bd_e hf
    refine cl_z_ro (Wd := (wX7 G ad f)) (Wc := ([] : va_W)) [] rfl (va_runS (As := [.int x2]) (rest := []) hC (c_X7_isOwner l G x2 r9 hc9 _) (va_cwS 1 hts gX7_power_X7_isOwner rfl rfl rfl (by decide +kernel) ⟨Nat.le_of_ble_eq_true rfl, Nat.le_of_ble_eq_true rfl⟩) ⟨Pc0_blind, fun U hU hW => Pc0_at (Wd := ([] : va_W)) hE (hP.subm [] rfl) (hD.sub [] (by decide) rfl) hU hW⟩ rfl rfl hl.1 rfl (lv_room (Nat.le_of_ble_eq_true rfl)) dX7_power_9 ⟨Nat.zero_le _, Nat.zero_le _⟩) hS hA hP hD (fun H locs hn9 hP hD hS => ?_)
    refine lv_if_eq (tgt := 25) hx hb dX7_power_12 (by decide) (fun hc => ?_) (fun hc => ?_)
    · have hf := if_t hf hc
      exact hB25  _ hf hK _ _ _ hP hD hS (lv_sub hl [] rfl)
    · have hf := if_f hf hc
      refine lv_iload_n hx hb dX7_power_15 rfl (lv_at hl 3 rfl) ?_
      refine lv_i2l (v := ((x3).toInt64)) hx hb dX7_power_16 rfl ?_
      refine lv_lconst (v := (lN 0)) hx hb dX7_power_17 rfl ?_
      refine lv_lconst (v := (lN 1)) hx hb dX7_power_18 rfl ?_
      obtain ⟨r19, hc19, hf⟩ := bd_e hf
      refine cl_z_ro (Wd := (wX7 G ad f)) (Wc := ([] : va_W)) [] rfl (va_runS (As := [.long ((x3).toInt64), .long (lN 0), .long (lN 1)]) (rest := []) hC (c_X7_in l G ((x3).toInt64) (lN 0) (lN 1) r19 hc19 _) (va_cwS 3 hts gX7_power_X7_in rfl rfl rfl (by decide +kernel) ⟨Nat.le_of_ble_eq_true rfl, Nat.le_of_ble_eq_true rfl⟩) ⟨Pc0_blind, fun U hU hW => Pc0_at (Wd := ([] : va_W)) hE (hP.subm [] rfl) (hD.sub [] (by decide) rfl) hU hW⟩ rfl rfl hl.1 rfl (lv_room (Nat.le_of_ble_eq_true rfl)) dX7_power_19 ⟨Nat.zero_le _, Nat.zero_le _⟩) hS hA hP hD (fun H locs hn19 hP hD hS => ?_)
      refine lv_if_ne (tgt := 29) hx hb dX7_power_22 (by decide) (fun hc => ?_) (fun hc => ?_)
      · have hf := if_f hf hc
        refine lv_iconst (v := (nI 0)) hx hb dX7_power_29 (ic_0) ?_
        refine lv_istore (lv' := [(4, .int (nI 0)), (0, .ref (ad 0)), (1, .int x1), (2, .int x2), (3, .int x3)]) hx hb dX7_power_30 hl (by decide) rfl (fun ls hl => ?_)
        refine lv_iconst (v := (nI 0)) hx hb dX7_power_32 (ic_0) ?_
        refine lv_istore (lv' := [(5, .int (nI 0)), (4, .int (nI 0)), (0, .ref (ad 0)), (1, .int x1), (2, .int x2), (3, .int x3)]) hx hb dX7_power_33 hl (by decide) rfl (fun ls hl => ?_)
        obtain ⟨y4_35, hlp, hf⟩ := bd_e hf
        refine lp_W1 (p_X7_power_L35 f x1 x2 x3) (fun z => match z with | (x4, x5) => ∀ (H : Heap) (locs : List Loc) (ls : Array Slot), va_P G.1 vwCl (wX7 G ad f) H → va_D A (wX7 G ad f) → va_S A s.heap H locs → lv_has ls 6 [(0, .ref (ad 0)), (1, .int x1), (2, .int x2), (3, .int x3), (4, .int x4), (5, .int x5)] → W p l e ({ frames := 4, cells := 0, slots := 0, locals := 85 }) s m args below meth c H locs 0 0 Q (F0 m 35 ls [])) (fun (y4_35 : Int32) => ∀ (H : Heap) (locs : List Loc) (ls : Array Slot), va_P G.1 vwCl (wX7 G ad f) H → va_D A (wX7 G ad f) → va_S A s.heap H locs → lv_has ls 6 [(0, .ref (ad 0)), (1, .int x1), (2, .int x2), (3, .int x3), (4, .int y4_35)] → W p l e ({ frames := 4, cells := 0, slots := 0, locals := 85 }) s m args below meth c H locs 0 0 Q (F0 m 59 ls [])) ?_ hlp ?_ _ _ _ hP hD hS (lv_sub hl [2, 3, 4, 5, 1, 0] rfl)
        · clear hlp hf hK hP hD hS hl
          intro K35 hW35 hX35 
          rintro ⟨x4, x5⟩ res hf hK H locs ls hP hD hS hl
          unfold p_X7_power_L35 at hf
          dsimp only at hf
          refine lv_iload hx hb dX7_power_35 (lv_at hl 5 rfl) ?_
          refine lv_iconst (v := (nI 5)) hx hb dX7_power_37 (ic_5) ?_
          refine lv_icmp_ge (tgt := 59) hx hb dX7_power_38 (by decide) (fun hc => ?_) (fun hc => ?_)
          · have hf := if_t hf hc
            have hK9 := K_of hf hK
            have hK9 := hX35 _ hK9
            exact hK9 _ _ _ hP hD hS (lv_sub hl [0, 1, 2, 3, 4] rfl)
          · have hf := if_f hf hc
            refine lv_iload hx hb dX7_power_41 (lv_at hl 4 rfl) ?_
            refine lv_aload_n hx hb dX7_power_43 rfl (lv_at hl 0 rfl) ?_
            refine lv_iload_n hx hb dX7_power_44 rfl (lv_at hl 1 rfl) ?_
            refine lv_iload hx hb dX7_power_45 (lv_at hl 5 rfl) ?_
            obtain ⟨r47, hc47, hf⟩ := bd_e hf
            refine cl_i_same (Wd := (wX7 G ad f)) (W' := (wX7 G ad f)) (va_runV (As := [.int x1, .int x5]) (rest := [.int x4]) hC (c_X7_swingsOf l G ad f x1 x5 r47 hc47 _) (cwV 2 hts gX7_power_X7_swingsOf rfl rfl rfl (by decide +kernel) ⟨Nat.le_of_ble_eq_true rfl, Nat.le_of_ble_eq_true rfl⟩) ⟨Pc0_blind, va_recv hT hP (q0 := 0) (ci := 7) rfl rfl, fun U hU hW => Pc0_at hE hP hD hU hW⟩ rfl rfl hl.1 rfl (lv_room (Nat.le_of_ble_eq_true rfl)) dX7_power_47 ⟨Nat.zero_le _, Nat.zero_le _⟩) hS hA hD (fun H locs hP hD hS => ?_)
            refine lv_iadd hx hb dX7_power_50 ?_
            refine lv_istore (lv' := [(4, .int (x4 + r47)), (0, .ref (ad 0)), (1, .int x1), (2, .int x2), (3, .int x3), (5, .int x5)]) hx hb dX7_power_51 hl (by decide) rfl (fun ls hl => ?_)
            refine lv_iinc (v := (x5 + nI 1)) (lv' := [(5, .int (x5 + nI 1)), (4, .int (x4 + r47)), (0, .ref (ad 0)), (1, .int x1), (2, .int x2), (3, .int x3)]) hx hb dX7_power_53 hl (k := 5) rfl (ii_x 1 _) (by decide) rfl (fun ls hl => ?_)
            refine lv_goto (tgt := 35) hx hb dX7_power_56 (by decide) ?_
            have hK9 := K_of hf hK
            have hK9 := hW35 _ hK9
            exact hK9 _ _ _ hP hD hS (lv_sub hl [2, 3, 4, 5, 1, 0] rfl)
        · try dsimp only at hf
          show ∀ (H : Heap) (locs : List Loc) (ls : Array Slot), va_P G.1 vwCl (wX7 G ad f) H → va_D A (wX7 G ad f) → va_S A s.heap H locs → lv_has ls 6 [(0, .ref (ad 0)), (1, .int x1), (2, .int x2), (3, .int x3), (4, .int y4_35)] → W p l e ({ frames := 4, cells := 0, slots := 0, locals := 85 }) s m args below meth c H locs 0 0 Q (F0 m 59 ls [])
          intro H locs ls hP hD hS hl
          refine lv_aload_n hx hb dX7_power_59 rfl (lv_at hl 0 rfl) ?_
          refine lv_iload_n hx hb dX7_power_60 rfl (lv_at hl 1 rfl) ?_
          refine lv_iload_n hx hb dX7_power_61 rfl (lv_at hl 2 rfl) ?_
          obtain ⟨r62, hc62, hf⟩ := bd_e hf
          refine cl_i_same (Wd := (wX7 G ad f)) (W' := (wX7 G ad f)) (va_runV (As := [.int x1, .int x2]) (rest := []) hC (c_X7_swingsOf l G ad f x1 x2 r62 hc62 _) (cwV 2 hts gX7_power_X7_swingsOf rfl rfl rfl (by decide +kernel) ⟨Nat.le_of_ble_eq_true rfl, Nat.le_of_ble_eq_true rfl⟩) ⟨Pc0_blind, va_recv hT hP (q0 := 0) (ci := 7) rfl rfl, fun U hU hW => Pc0_at hE hP hD hU hW⟩ rfl rfl hl.1 rfl (lv_room (Nat.le_of_ble_eq_true rfl)) dX7_power_62 ⟨Nat.zero_le _, Nat.zero_le _⟩) hS hA hD (fun H locs hP hD hS => ?_)
          refine lv_i2l (v := ((r62).toInt64)) hx hb dX7_power_65 rfl ?_
          refine lv_iload hx hb dX7_power_66 (lv_at hl 4 rfl) ?_
          refine lv_if_ne (tgt := 75) hx hb dX7_power_68 (by decide) (fun hc => ?_) (fun hc => ?_)
          · have hf := if_f hf hc
            refine lv_iload hx hb dX7_power_75 (lv_at hl 4 rfl) ?_
            refine lv_i2l (v := ((y4_35).toInt64)) hx hb dX7_power_77 rfl ?_
            exact hB78 x3 ((y4_35).toInt64) ((r62).toInt64) _ hf hK _ _ _ hP hD hS (lv_sub hl [3] rfl)
          · have hf := if_t hf hc
            refine lv_lconst (v := (lN 1)) hx hb dX7_power_71 rfl ?_
            refine lv_goto (tgt := 78) hx hb dX7_power_72 (by decide) ?_
            exact hB78 x3 (lN 1) ((r62).toInt64) _ hf hK _ _ _ hP hD hS (lv_sub hl [3] rfl)
      · have hf := if_t hf hc
        exact hB25  _ hf hK _ _ _ hP hD hS (lv_sub hl [] rfl)
