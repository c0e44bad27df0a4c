noncomputable def p_X7_reign (f : Mem) (x1 : Int32) (x2 : Int32) : Option (Int32) :=
  Option.bind (p_X7_isGoose f x1) <| fun r2 =>
  if r2 = 0 then
    (some (-1 : Int32))
  else
    (Option.bind (p_X7_isOwner x2) <| fun r9 =>
     if r9 = 0 then
       (some (-1 : Int32))
     else
       (Option.bind (p_X7_feathersOn f (nI 0) x1) <| fun r20 =>
        Option.bind (p_X7_shareOn f (nI 0) x1 x2) <| fun r27 =>
        if (nI 99) ≤ (r20 - r27) then
          (some (-4 : Int32))
        else
          (some ((r20 - r27) + (nI 1)))))
set_option maxHeartbeats 4000000 in
set_option maxRecDepth 100000 in
theorem c_X7_reign (l : Launch) (G : Gt) (ad : Nat → Nat) (f : Mem) (x1 : Int32) (x2 : Int32) (r : Int32) (hf : p_X7_reign f x1 x2 = some r) (sz : Nat) : Met l yX7_reign wsX7_reign ({ frames := 3, cells := 0, slots := 0, locals := 59 }) (Pc0 G sz [.ref (ad 0), .int x1, .int x2] (wX7 G ad f)) (Qi0 G (va_A (wX7 G ad f) sz) r (wX7 G ad f)) 0 0 (va_A (wX7 G ad f) sz) := by
  refine metP (Qf := fun A => Qi0 G A r (wX7 G ad f)) cX7_reign 4 (some .int) (by decide) rfl (Nat.le_of_ble_eq_true rfl) ?_
  intro p e s m below meth c A ls hC hr hlocks hin hE hA hsz hP hD hS hl
  generalize hargs : ([.ref (ad 0), .int x1, .int x2] : List Value).toArray = args at hC ⊢
  obtain ⟨hx, hb, hml, hown, hts⟩ := id hC
  have hT : va_K G.1 vwCl (tyL G) s := hE.1
  have hRet : ∀ (r9 : Int32) (H : Heap) (locs : List Loc) (ls : Array Slot) (pc : Nat) (hK9 : r9 = r) (hdg : decode cX7_reign pc = .ok (.ireturn, 1)), va_P G.1 vwCl (wX7 G ad f) H → va_D A (wX7 G ad f) → va_S A s.heap H locs → W p l e ({ frames := 3, cells := 0, slots := 0, locals := 59 }) s m args below meth c H locs 0 0 (MQ below (Qi0 G A r (wX7 G ad f)) args s 0 0 A) (F0 m pc ls [.int r9]) := by
    intro r9 H locs ls pc hK9 hdg hP hD hS
    cases hK9
    exact W.iret hx hb hr (fun t ht hW => ⟨⟨r, (), rfl, rfl, by rw [ht]; exact hP, hD⟩, hS.F ht⟩) hS.2.2 hdg hlocks
  generalize MQ below (Qi0 G A r (wX7 G ad f)) args s 0 0 A = Q at hRet ⊢
  have hl : lv_has ls 4 [(0, .ref (ad 0)), (1, .int x1), (2, .int x2)] := hl
  have hK0 : r = r := rfl
  obtain ⟨res, hres, hK⟩ : ∃ res, p_X7_reign f x1 x2 = some res ∧ res = r := ⟨_, hf, rfl⟩
  clear hf
  have hf := hres
  clear hres
  unfold p_X7_reign at hf
  refine lv_aload_n hx hb dX7_reign_0 rfl (lv_at hl 0 rfl) ?_
  refine lv_iload_n hx hb dX7_reign_1 rfl (lv_at hl 1 rfl) ?_
  obtain ⟨r2, hc2, hf⟩ := bd_e hf
  refine cl_z_same (Wd := (wX7 G ad f)) (W' := (wX7 G ad f)) (va_runV (As := [.int x1]) (rest := []) hC (c_X7_isGoose l G ad f x1 r2 hc2 _) (cwV 1 hts gX7_reign_X7_isGoose rfl rfl rfl (by decide +kernel) ⟨Nat.le_of_ble_eq_true rfl, Nat.le_of_ble_eq_true rfl⟩) ⟨Pc0_blind, va_recv hT hP (q0 := 0) (ci := 7) rfl rfl, fun U hU hW => Pc0_at hE hP hD hU hW⟩ rfl rfl hl.1 rfl (lv_room (Nat.le_of_ble_eq_true rfl)) dX7_reign_2 ⟨Nat.zero_le _, Nat.zero_le _⟩) hS hA hD (fun H locs hn2 hP hD hS => ?_)
  refine lv_if_eq (tgt := 15) hx hb dX7_reign_5 (by decide) (fun hc => ?_) (fun hc => ?_)
  · have hf := if_t hf hc
    refine lv_iconst (v := (-1 : Int32)) hx hb dX7_reign_15 (ic_m1) ?_
    have hK9 := K0_of hf hK
    exact hRet (-1 : Int32) _ _ _ _ hK9 dX7_reign_16 hP hD hS
  · have hf := if_f hf hc
    refine lv_iload_n hx hb dX7_reign_8 rfl (lv_at hl 2 rfl) ?_
    obtain ⟨r9, hc9, hf⟩ := bd_e hf
    refine cl_z_ro (Wd := (wX7 G ad f)) (Wc := ([] : va_W)) [] rfl (va_runS (As := [.int x2]) (rest := []) hC (c_X7_isOwner l G x2 r9 hc9 _) (va_cwS 1 hts gX7_reign_X7_isOwner rfl rfl rfl (by decide +kernel) ⟨Nat.le_of_ble_eq_true rfl, Nat.le_of_ble_eq_true rfl⟩) ⟨Pc0_blind, fun U hU hW => Pc0_at (Wd := ([] : va_W)) hE (hP.subm [] rfl) (hD.sub [] (by decide) rfl) hU hW⟩ rfl rfl hl.1 rfl (lv_room (Nat.le_of_ble_eq_true rfl)) dX7_reign_9 ⟨Nat.zero_le _, Nat.zero_le _⟩) hS hA hP hD (fun H locs hn9 hP hD hS => ?_)
    refine lv_if_ne (tgt := 17) hx hb dX7_reign_12 (by decide) (fun hc => ?_) (fun hc => ?_)
    · have hf := if_f hf hc
      refine lv_aload_n hx hb dX7_reign_17 rfl (lv_at hl 0 rfl) ?_
      refine lv_iconst (v := (nI 0)) hx hb dX7_reign_18 (ic_0) ?_
      refine lv_iload_n hx hb dX7_reign_19 rfl (lv_at hl 1 rfl) ?_
      obtain ⟨r20, hc20, hf⟩ := bd_e hf
      refine cl_i_same (Wd := (wX7 G ad f)) (W' := (wX7 G ad f)) (va_runV (As := [.int (nI 0), .int x1]) (rest := []) hC (c_X7_feathersOn l G ad f (nI 0) x1 r20 hc20 _) (cwV 2 hts gX7_reign_X7_feathersOn rfl rfl rfl (by decide +kernel) ⟨Nat.le_of_ble_eq_true rfl, Nat.le_of_ble_eq_true rfl⟩) ⟨Pc0_blind, va_recv hT hP (q0 := 0) (ci := 7) rfl rfl, fun U hU hW => Pc0_at hE hP hD hU hW⟩ rfl rfl hl.1 rfl (lv_room (Nat.le_of_ble_eq_true rfl)) dX7_reign_20 ⟨Nat.zero_le _, Nat.zero_le _⟩) hS hA hD (fun H locs hP hD hS => ?_)
      refine lv_aload_n hx hb dX7_reign_23 rfl (lv_at hl 0 rfl) ?_
      refine lv_iconst (v := (nI 0)) hx hb dX7_reign_24 (ic_0) ?_
      refine lv_iload_n hx hb dX7_reign_25 rfl (lv_at hl 1 rfl) ?_
      refine lv_iload_n hx hb dX7_reign_26 rfl (lv_at hl 2 rfl) ?_
      obtain ⟨r27, hc27, hf⟩ := bd_e hf
      refine cl_i_same (Wd := (wX7 G ad f)) (W' := (wX7 G ad f)) (va_runV (As := [.int (nI 0), .int x1, .int x2]) (rest := [.int r20]) hC (c_X7_shareOn l G ad f (nI 0) x1 x2 r27 hc27 _) (cwV 3 hts gX7_reign_X7_shareOn rfl rfl rfl (by decide +kernel) ⟨Nat.le_of_ble_eq_true rfl, Nat.le_of_ble_eq_true rfl⟩) ⟨Pc0_blind, va_recv hT hP (q0 := 0) (ci := 7) rfl rfl, fun U hU hW => Pc0_at hE hP hD hU hW⟩ rfl rfl hl.1 rfl (lv_room (Nat.le_of_ble_eq_true rfl)) dX7_reign_27 ⟨Nat.zero_le _, Nat.zero_le _⟩) hS hA hD (fun H locs hP hD hS => ?_)
      refine lv_isub hx hb dX7_reign_30 ?_
      refine lv_istore_n (lv' := [(3, .int (r20 - r27)), (0, .ref (ad 0)), (1, .int x1), (2, .int x2)]) hx hb dX7_reign_31 rfl hl (by decide) rfl (fun ls hl => ?_)
      refine lv_iload_n hx hb dX7_reign_32 rfl (lv_at hl 0 rfl) ?_
      refine lv_bipush (v := (nI 99)) hx hb dX7_reign_33 (bi_99) ?_
      refine lv_icmp_ge (tgt := 44) hx hb dX7_reign_35 (by decide) (fun hc => ?_) (fun hc => ?_)
      · have hf := if_t hf hc
        refine lv_bipush (v := (-4 : Int32)) hx hb dX7_reign_44 (bi_m4) ?_
        have hK9 := K0_of hf hK
        exact hRet (-4 : Int32) _ _ _ _ hK9 dX7_reign_46 hP hD hS
      · have hf := if_f hf hc
        refine lv_iload_n hx hb dX7_reign_38 rfl (lv_at hl 0 rfl) ?_
        refine lv_iconst (v := (nI 1)) hx hb dX7_reign_39 (ic_1) ?_
        refine lv_iadd hx hb dX7_reign_40 ?_
        refine lv_goto (tgt := 46) hx hb dX7_reign_41 (by decide) ?_
        have hK9 := K0_of hf hK
        exact hRet ((r20 - r27) + (nI 1)) _ _ _ _ hK9 dX7_reign_46 hP hD hS
    · have hf := if_t hf hc
      refine lv_iconst (v := (-1 : Int32)) hx hb dX7_reign_15 (ic_m1) ?_
      have hK9 := K0_of hf hK
      exact hRet (-1 : Int32) _ _ _ _ hK9 dX7_reign_16 hP hD hS
noncomputable def p_X7_byMoults_L9 (f : Mem) (x1 : Int32) (x2 : Int32) (x3 : Int32) (x4 : Int32) (x5 : Int32) (x6 : Int64) (z : Int64 × Int32) : Option ((Int64 × Int32) ⊕ Int64) :=
  match z with
  | (x8, x10) =>
    if x4 ≤ x10 then
      (some (Sum.inr x8))
    else
      (some (Sum.inl ((x8 * (10 : Int64)), (x10 + nI 1))))
noncomputable def p_X7_byMoults_B155 (f_ : Mem) (x1 : Int32) (x2 : Int32) (x3 : Int32) (x4 : Int32) (x5 : Int32) (x8 : Int64) (x10 : Int32) (s0 : Int32) (s1 : Int64) (s2 : Int64) : Option ((Int64 × Int32 × Mem) ⊕ (Int64 × Mem)) :=
  some (Sum.inl ((s2 + (s1 * ((s0).toInt64))), (x10 + nI 1), f_))
noncomputable def p_X7_byMoults_B98 (f_ : Mem) (x1 : Int32) (x2 : Int32) (x3 : Int32) (x4 : Int32) (x5 : Int32) (x6 : Int64) (x8 : Int64) (x10 : Int32) (x13 : Int32) (x14 : Int32) (s0 : Int64) (s1 : Int64) : Option ((Int64 × Int32 × Mem) ⊕ (Int64 × Mem)) :=
  Option.bind (p_X7_weekOn f_ (nI 240) x14) <| fun (r107, f_107) =>
  some (Sum.inl ((s1 * s0), (x13 + nI 1), f_107))
noncomputable def p_X7_byMoults_B79 (f_ : Mem) (x1 : Int32) (x2 : Int32) (x3 : Int32) (x4 : Int32) (x5 : Int32) (x6 : Int64) (x8 : Int64) (x10 : Int32) (x11 : Int64) (x13 : Int32) (s0 : Int32) : Option ((Int64 × Int32 × Mem) ⊕ (Int64 × Mem)) :=
  if s0 = 0 then
    (p_X7_byMoults_B98 f_ x1 x2 x3 x4 x5 x6 x8 x10 x13 s0 (((nI 10) - x1).toInt64) x11)
  else
    (p_X7_byMoults_B98 f_ x1 x2 x3 x4 x5 x6 x8 x10 x13 s0 ((x1).toInt64) x11)
noncomputable def p_X7_byMoults_L56 (x1 : Int32) (x2 : Int32) (x3 : Int32) (x4 : Int32) (x5 : Int32) (x6 : Int64) (x8 : Int64) (x10 : Int32) (z : Int64 × Int32 × Mem) : Option ((Int64 × Int32 × Mem) ⊕ (Int64 × Mem)) :=
  match z with
  | (x11, x13, f_) =>
    if x4 ≤ x13 then
      (some (Sum.inr (x11, f_)))
    else
      (if ((x10 >>> (x13 &&& 31)) &&& (nI 1)) = (nI 1) then
         (p_X7_byMoults_B79 f_ x1 x2 x3 x4 x5 x6 x8 x10 x11 x13 (nI 1))
       else
         (p_X7_byMoults_B79 f_ x1 x2 x3 x4 x5 x6 x8 x10 x11 x13 (nI 0)))
noncomputable def p_X7_byMoults_L33 (x1 : Int32) (x2 : Int32) (x3 : Int32) (x4 : Int32) (x5 : Int32) (x8 : Int64) (z : Int64 × Int32 × Mem) : Option ((Int64 × Int32 × Mem) ⊕ (Int64 × Mem)) :=
  match z with
  | (x6, x10, f_) =>
    if ((nI 1) <<< (x4 &&& 31)) ≤ x10 then
      (some (Sum.inr (x6, f_)))
    else
      (Option.bind (p_X7_copies f_ (nI 0) (nI 240)) <| fun f_50 =>
       Option.bind (lp (p_X7_byMoults_L56 x1 x2 x3 x4 x5 x6 x8 x10) ((lN 1), (nI 0), f_50)) <| fun (y11_56, f_56) =>
       if x3 = (-4 : Int32) then
         (Option.bind (p_X7_feathersOn f_56 (nI 240) x2) <| fun r132 =>
          p_X7_byMoults_B155 f_56 x1 x2 x3 x4 x5 x8 x10 r132 y11_56 x6)
       else
         (Option.bind (p_X7_eggOn f_56 (nI 240) x2) <| fun r143 =>
          if r143 = x3 then
            (p_X7_byMoults_B155 f_56 x1 x2 x3 x4 x5 x8 x10 (nI 1) y11_56 x6)
          else
            (p_X7_byMoults_B155 f_56 x1 x2 x3 x4 x5 x8 x10 (nI 0) y11_56 x6)))
noncomputable def p_X7_byMoults (f : Mem) (x1 : Int32) (x2 : Int32) (x3 : Int32) (x4 : Int32) (x5 : Int32) : Option (Int64 × Mem) :=
  Option.bind (lp (p_X7_byMoults_L9 f x1 x2 x3 x4 x5 (lN 0)) ((lN 1), (nI 0))) <| fun y8_9 =>
  Option.bind (lp (p_X7_byMoults_L33 x1 x2 x3 x4 x5 y8_9) ((lN 0), (nI 0), f)) <| fun (y6_33, f_33) =>
  Option.bind (p_X7_lowest y6_33 y8_9 x5) <| fun r172 =>
  some (r172, f_33)
set_option maxHeartbeats 4000000 in
set_option maxRecDepth 100000 in
theorem c_X7_byMoults (l : Launch) (G : Gt) (ad : Nat → Nat) (f : Mem) (x1 : Int32) (x2 : Int32) (x3 : Int32) (x4 : Int32) (x5 : Int32) (r : Int64) (fz : Mem) (hf : p_X7_byMoults f x1 x2 x3 x4 x5 = some (r, fz)) (sz : Nat) : Met l yX7_byMoults wsX7_byMoults ({ frames := 5, cells := 0, slots := 0, locals := 108 }) (Pc0 G sz [.ref (ad 0), .int x1, .int x2, .int x3, .int x4, .int x5] (wX7 G ad f)) (Ql0 G (va_A (wX7 G ad f) sz) r (wX7 G ad fz)) 0 0 (va_A (wX7 G ad f) sz) := by
  refine metP (Qf := fun A => Ql0 G A r (wX7 G ad fz)) cX7_byMoults 15 (some .long) (by decide) rfl (Nat.le_of_ble_eq_true rfl) ?_
  intro p e s m below meth c A ls hC hr hlocks hin hE hA hsz hP hD hS hl
  generalize hargs : ([.ref (ad 0), .int x1, .int x2, .int x3, .int x4, .int x5] : List Value).toArray = args at hC ⊢
  obtain ⟨hx, hb, hml, hown, hts⟩ := id hC
  have hT : va_K G.1 vwCl (tyL G) s := hE.1
  have hRet : ∀ (r9 : Int64) (f9 : Mem) (H : Heap) (locs : List Loc) (ls : Array Slot) (pc : Nat) (hK9 : (r9, f9) = (r, fz)) (hdg : decode cX7_byMoults pc = .ok (.lreturn, 1)), va_P G.1 vwCl (wX7 G ad f9) H → va_D A (wX7 G ad f9) → va_S A s.heap H locs → W p l e ({ frames := 5, cells := 0, slots := 0, locals := 108 }) s m args below meth c H locs 0 0 (MQ below (Ql0 G A r (wX7 G ad fz)) args s 0 0 A) (F0 m pc ls [.long r9]) := by
    intro r9 f9 H locs ls pc hK9 hdg hP hD hS
    cases hK9
    exact W.lret hx hb hr (fun t ht hW => ⟨⟨r, (), rfl, rfl, by rw [ht]; exact hP, hD⟩, hS.F ht⟩) hS.2.2 hdg hlocks
  generalize MQ below (Ql0 G A r (wX7 G ad fz)) args s 0 0 A = Q at hRet ⊢
  have hl : lv_has ls 15 [(0, .ref (ad 0)), (1, .int x1), (2, .int x2), (3, .int x3), (4, .int x4), (5, .int x5)] := hl
  have hK0 : (r, fz) = (r, fz) := rfl
  obtain ⟨res, hres, hK⟩ : ∃ res, p_X7_byMoults f x1 x2 x3 x4 x5 = some res ∧ res = (r, fz) := ⟨_, hf, rfl⟩
  clear hf
  have hf := hres
  clear hres
  unfold p_X7_byMoults at hf
  refine lv_lconst (v := (lN 0)) hx hb dX7_byMoults_0 rfl ?_
  refine lv_lstore (lv' := [(6, .long (lN 0)), (0, .ref (ad 0)), (1, .int x1), (2, .int x2), (3, .int x3), (4, .int x4), (5, .int x5)]) hx hb dX7_byMoults_1 hl (by decide) rfl (fun ls hl => ?_)
  refine lv_lconst (v := (lN 1)) hx hb dX7_byMoults_3 rfl ?_
  refine lv_lstore (lv' := [(8, .long (lN 1)), (6, .long (lN 0)), (0, .ref (ad 0)), (1, .int x1), (2, .int x2), (3, .int x3), (4, .int x4), (5, .int x5)]) hx hb dX7_byMoults_4 hl (by decide) rfl (fun ls hl => ?_)
  refine lv_iconst (v := (nI 0)) hx hb dX7_byMoults_6 (ic_0) ?_
  refine lv_istore (lv' := [(10, .int (nI 0)), (8, .long (lN 1)), (6, .long (lN 0)), (0, .ref (ad 0)), (1, .int x1), (2, .int x2), (3, .int x3), (4, .int x4), (5, .int x5)]) hx hb dX7_byMoults_7 hl (by decide) rfl (fun ls hl => ?_)
  obtain ⟨y8_9, hlp, hf⟩ := bd_e hf
  refine lp_W1 (p_X7_byMoults_L9 f x1 x2 x3 x4 x5 (lN 0)) (fun z => match z with | (x8, x10) => ∀ (H : Heap) (locs : List Loc) (ls : Array Slot), va_P G.1 vwCl (wX7 G ad f) H → va_D A (wX7 G ad f) → va_S A s.heap H locs → lv_has ls 15 [(0, .ref (ad 0)), (1, .int x1), (2, .int x2), (3, .int x3), (4, .int x4), (5, .int x5), (6, .long (lN 0)), (8, .long x8), (10, .int x10)] → W p l e ({ frames := 5, cells := 0, slots := 0, locals := 108 }) s m args below meth c H locs 0 0 Q (F0 m 9 ls [])) (fun (y8_9 : Int64) => ∀ (H : Heap) (locs : List Loc) (ls : Array Slot), va_P G.1 vwCl (wX7 G ad f) H → va_D A (wX7 G ad f) → va_S A s.heap H locs → lv_has ls 15 [(0, .ref (ad 0)), (1, .int x1), (2, .int x2), (3, .int x3), (4, .int x4), (5, .int x5), (6, .long (lN 0)), (8, .long y8_9)] → W p l e ({ frames := 5, cells := 0, slots := 0, locals := 108 }) s m args below meth c H locs 0 0 Q (F0 m 30 ls [])) ?_ hlp ?_ _ _ _ hP hD hS (lv_sub hl [3, 4, 5, 6, 7, 8, 2, 1, 0] rfl)
  · clear hlp hf hK hP hD hS hl
    generalize (lN 0) = x6
    intro K9 hW9 hX9 
    rintro ⟨x8, x10⟩ res hf hK H locs ls hP hD hS hl
    unfold p_X7_byMoults_L9 at hf
    dsimp only at hf
    refine lv_iload hx hb dX7_byMoults_9 (lv_at hl 8 rfl) ?_
    refine lv_iload hx hb dX7_byMoults_11 (lv_at hl 4 rfl) ?_
    refine lv_icmp_ge (tgt := 30) hx hb dX7_byMoults_13 (by decide) (fun hc => ?_) (fun hc => ?_)
    · have hf := if_t hf hc
      have hK9 := K_of hf hK
      have hK9 := hX9 _ hK9
      exact hK9 _ _ _ hP hD hS (lv_sub hl [0, 1, 2, 3, 4, 5, 6, 7] rfl)
    · have hf := if_f hf hc
      refine lv_lload hx hb dX7_byMoults_16 (lv_at hl 7 rfl) ?_
      refine W.ldc2 (v := (10 : Int64)) hx hb hown (hts (.constantLong RX7 255 (10 : Int64)) (by decide +kernel)) rfl dX7_byMoults_18 ?_
      refine W.eq (g2 := F0 m 21 ls [.long (10 : Int64), .long x8]) rfl ?_
      refine lv_lmul hx hb dX7_byMoults_21 ?_
      refine lv_lstore (lv' := [(8, .long (x8 * (10 : Int64))), (0, .ref (ad 0)), (1, .int x1), (2, .int x2), (3, .int x3), (4, .int x4), (5, .int x5), (6, .long x6), (10, .int x10)]) hx hb dX7_byMoults_22 hl (by decide) rfl (fun ls hl => ?_)
      refine lv_iinc (v := (x10 + nI 1)) (lv' := [(10, .int (x10 + nI 1)), (8, .long (x8 * (10 : Int64))), (0, .ref (ad 0)), (1, .int x1), (2, .int x2), (3, .int x3), (4, .int x4), (5, .int x5), (6, .long x6)]) hx hb dX7_byMoults_24 hl (k := 8) rfl (ii_x 1 _) (by decide) rfl (fun ls hl => ?_)
      refine lv_goto (tgt := 9) hx hb dX7_byMoults_27 (by decide) ?_
      have hK9 := K_of hf hK
      have hK9 := hW9 _ hK9
      exact hK9 _ _ _ hP hD hS (lv_sub hl [2, 3, 4, 5, 6, 7, 8, 1, 0] rfl)
  · try dsimp only at hf
    show ∀ (H : Heap) (locs : List Loc) (ls : Array Slot), va_P G.1 vwCl (wX7 G ad f) H → va_D A (wX7 G ad f) → va_S A s.heap H locs → lv_has ls 15 [(0, .ref (ad 0)), (1, .int x1), (2, .int x2), (3, .int x3), (4, .int x4), (5, .int x5), (6, .long (lN 0)), (8, .long y8_9)] → W p l e ({ frames := 5, cells := 0, slots := 0, locals := 108 }) s m args below meth c H locs 0 0 Q (F0 m 30 ls [])
    intro H locs ls hP hD hS hl
    refine lv_iconst (v := (nI 0)) hx hb dX7_byMoults_30 (ic_0) ?_
    refine lv_istore (lv' := [(10, .int (nI 0)), (0, .ref (ad 0)), (1, .int x1), (2, .int x2), (3, .int x3), (4, .int x4), (5, .int x5), (6, .long (lN 0)), (8, .long y8_9)]) hx hb dX7_byMoults_31 hl (by decide) rfl (fun ls hl => ?_)
    obtain ⟨⟨y6_33, f_33⟩, hlp, hf⟩ := bd_e hf
    refine lp_W1 (p_X7_byMoults_L33 x1 x2 x3 x4 x5 y8_9) (fun z => match z with | (x6, x10, f_) => ∀ (H : Heap) (locs : List Loc) (ls : Array Slot), va_P G.1 vwCl (wX7 G ad f_) H → va_D A (wX7 G ad f_) → va_S A s.heap H locs → lv_has ls 15 [(0, .ref (ad 0)), (1, .int x1), (2, .int x2), (3, .int x3), (4, .int x4), (5, .int x5), (6, .long x6), (8, .long y8_9), (10, .int x10)] → W p l e ({ frames := 5, cells := 0, slots := 0, locals := 108 }) s m args below meth c H locs 0 0 Q (F0 m 33 ls [])) (fun z => match z with | (y6_33, f_33) => ∀ (H : Heap) (locs : List Loc) (ls : Array Slot), va_P G.1 vwCl (wX7 G ad f_33) H → va_D A (wX7 G ad f_33) → va_S A s.heap H locs → lv_has ls 15 [(5, .int x5), (6, .long y6_33), (8, .long y8_9)] → W p l e ({ frames := 5, cells := 0, slots := 0, locals := 108 }) s m args below meth c H locs 0 0 Q (F0 m 166 ls [])) ?_ hlp ?_ _ _ _ hP hD hS (lv_sub hl [1, 2, 3, 4, 5, 6, 7, 8, 0] rfl)
    · clear hlp hf hK hP hD hS hl
      generalize y8_9 = x8
      intro K33 hW33 hX33 
      have hB155 : ∀ (f_ : Mem) (x10 : Int32) (s0 : Int32) (s1 : Int64) (s2 : Int64) (res : (Int64 × Int32 × Mem) ⊕ (Int64 × Mem)) (hf : p_X7_byMoults_B155 f_ x1 x2 x3 x4 x5 x8 x10 s0 s1 s2 = some res) (hK : K33 res), ∀ (H : Heap) (locs : List Loc) (ls : Array Slot), va_P G.1 vwCl (wX7 G ad f_) H → va_D A (wX7 G ad f_) → va_S A s.heap H locs → lv_has ls 15 [(0, .ref (ad 0)), (1, .int x1), (2, .int x2), (3, .int x3), (4, .int x4), (5, .int x5), (8, .long x8), (10, .int x10)] → W p l e ({ frames := 5, cells := 0, slots := 0, locals := 108 }) s m args below meth c H locs 0 0 Q (F0 m 155 ls [.int s0, .long s1, .long s2]) := by
        intro f_ x10 s0 s1 s2 res hf hK H locs ls hP hD hS hl
        unfold p_X7_byMoults_B155 at hf
        refine lv_i2l (v := ((s0).toInt64)) hx hb dX7_byMoults_155 rfl ?_
        refine lv_lmul hx hb dX7_byMoults_156 ?_
        refine lv_ladd hx hb dX7_byMoults_157 ?_
        refine lv_lstore (lv' := [(6, .long (s2 + (s1 * ((s0).toInt64)))), (0, .ref (ad 0)), (1, .int x1), (2, .int x2), (3, .int x3), (4, .int x4), (5, .int x5), (8, .long x8), (10, .int x10)]) hx hb dX7_byMoults_158 hl (by decide) rfl (fun ls hl => ?_)
        refine lv_iinc (v := (x10 + nI 1)) (lv' := [(10, .int (x10 + nI 1)), (6, .long (s2 + (s1 * ((s0).toInt64)))), (0, .ref (ad 0)), (1, .int x1), (2, .int x2), (3, .int x3), (4, .int x4), (5, .int x5), (8, .long x8)]) hx hb dX7_byMoults_160 hl (k := 8) rfl (ii_x 1 _) (by decide) rfl (fun ls hl => ?_)
        refine lv_goto (tgt := 33) hx hb dX7_byMoults_163 (by decide) ?_
        have hK9 := K_of hf hK
        have hK9 := hW33 _ hK9
        exact hK9 _ _ _ hP hD hS (lv_sub hl [2, 3, 4, 5, 6, 7, 1, 8, 0] rfl)
      rintro ⟨x6, x10, f_⟩ res hf hK H locs ls hP hD hS hl
      unfold p_X7_byMoults_L33 at hf
      dsimp only at hf
      refine lv_iload hx hb dX7_byMoults_33 (lv_at hl 8 rfl) ?_
      refine lv_iconst (v := (nI 1)) hx hb dX7_byMoults_35 (ic_1) ?_
      refine lv_iload hx hb dX7_byMoults_36 (lv_at hl 4 rfl) ?_
      refine lv_ishl hx hb dX7_byMoults_38 ?_
      refine lv_icmp_ge (tgt := 166) hx hb dX7_byMoults_39 (by decide) (fun hc => ?_) (fun hc => ?_)
      · have hf := if_t hf hc
        have hK9 := K_of hf hK
        have hK9 := hX33 _ hK9
        exact hK9 _ _ _ hP hD hS (lv_sub hl [5, 6, 7] rfl)
      · have hf := if_f hf hc
        refine lv_lconst (v := (lN 1)) hx hb dX7_byMoults_42 rfl ?_
        refine lv_lstore (lv' := [(11, .long (lN 1)), (0, .ref (ad 0)), (1, .int x1), (2, .int x2), (3, .int x3), (4, .int x4), (5, .int x5), (6, .long x6), (8, .long x8), (10, .int x10)]) hx hb dX7_byMoults_43 hl (by decide) rfl (fun ls hl => ?_)
        refine lv_aload_n hx hb dX7_byMoults_45 rfl (lv_at hl 1 rfl) ?_
        refine lv_iconst (v := (nI 0)) hx hb dX7_byMoults_46 (ic_0) ?_
        refine lv_sipush (v := (nI 240)) hx hb dX7_byMoults_47 (si_240) ?_
        obtain ⟨f_50, hc50, hf⟩ := bd_e hf
        refine cl_v_same (Wd := (wX7 G ad f_)) (W' := (wX7 G ad f_50)) (va_runV (As := [.int (nI 0), .int (nI 240)]) (rest := []) hC (c_X7_copies l G ad f_ (nI 0) (nI 240) f_50 hc50 _) (cwV 2 hts gX7_byMoults_X7_copies rfl rfl rfl (by decide +kernel) ⟨Nat.le_of_ble_eq_true rfl, Nat.le_of_ble_eq_true rfl⟩) ⟨Pc0_blind, va_recv hT hP (q0 := 0) (ci := 7) rfl rfl, fun U hU hW => Pc0_at hE hP hD hU hW⟩ rfl rfl hl.1 rfl (lv_room (Nat.le_of_ble_eq_true rfl)) dX7_byMoults_50 ⟨Nat.zero_le _, Nat.zero_le _⟩) hS hA hD (fun H locs hP hD hS => ?_)
        refine lv_iconst (v := (nI 0)) hx hb dX7_byMoults_53 (ic_0) ?_
        refine lv_istore (lv' := [(13, .int (nI 0)), (11, .long (lN 1)), (0, .ref (ad 0)), (1, .int x1), (2, .int x2), (3, .int x3), (4, .int x4), (5, .int x5), (6, .long x6), (8, .long x8), (10, .int x10)]) hx hb dX7_byMoults_54 hl (by decide) rfl (fun ls hl => ?_)
        obtain ⟨⟨y11_56, f_56⟩, hlp, hf⟩ := bd_e hf
        refine lp_W1 (p_X7_byMoults_L56 x1 x2 x3 x4 x5 x6 x8 x10) (fun z => match z with | (x11, x13, f_) => ∀ (H : Heap) (locs : List Loc) (ls : Array Slot), va_P G.1 vwCl (wX7 G ad f_) H → va_D A (wX7 G ad f_) → va_S A s.heap H locs → lv_has ls 15 [(0, .ref (ad 0)), (1, .int x1), (2, .int x2), (3, .int x3), (4, .int x4), (5, .int x5), (6, .long x6), (8, .long x8), (10, .int x10), (11, .long x11), (13, .int x13)] → W p l e ({ frames := 5, cells := 0, slots := 0, locals := 108 }) s m args below meth c H locs 0 0 Q (F0 m 56 ls [])) (fun z => match z with | (y11_56, f_56) => ∀ (H : Heap) (locs : List Loc) (ls : Array Slot), va_P G.1 vwCl (wX7 G ad f_56) H → va_D A (wX7 G ad f_56) → va_S A s.heap H locs → lv_has ls 15 [(0, .ref (ad 0)), (1, .int x1), (2, .int x2), (3, .int x3), (4, .int x4), (5, .int x5), (6, .long x6), (8, .long x8), (10, .int x10), (11, .long y11_56)] → W p l e ({ frames := 5, cells := 0, slots := 0, locals := 108 }) s m args below meth c H locs 0 0 Q (F0 m 117 ls [])) ?_ hlp ?_ _ _ _ hP hD hS (lv_sub hl [2, 3, 4, 5, 6, 7, 8, 9, 10, 1, 0] rfl)
        · clear hlp hf hK hP hD hS hl
          intro K56 hW56 hX56 
          have hB98 : ∀ (f_ : Mem) (x13 : Int32) (x14 : Int32) (s0 : Int64) (s1 : Int64) (res : (Int64 × Int32 × Mem) ⊕ (Int64 × Mem)) (hf : p_X7_byMoults_B98 f_ x1 x2 x3 x4 x5 x6 x8 x10 x13 x14 s0 s1 = some res) (hK : K56 res), ∀ (H : Heap) (locs : List Loc) (ls : Array Slot), va_P G.1 vwCl (wX7 G ad f_) H → va_D A (wX7 G ad f_) → va_S A s.heap H locs → lv_has ls 15 [(0, .ref (ad 0)), (1, .int x1), (2, .int x2), (3, .int x3), (4, .int x4), (5, .int x5), (6, .long x6), (8, .long x8), (10, .int x10), (13, .int x13), (14, .int x14)] → W p l e ({ frames := 5, cells := 0, slots := 0, locals := 108 }) s m args below meth c H locs 0 0 Q (F0 m 98 ls [.long s0, .long s1]) := by
            intro f_ x13 x14 s0 s1 res hf hK H locs ls hP hD hS hl
            unfold p_X7_byMoults_B98 at hf
            refine lv_lmul hx hb dX7_byMoults_98 ?_
            refine lv_lstore (lv' := [(11, .long (s1 * s0)), (0, .ref (ad 0)), (1, .int x1), (2, .int x2), (3, .int x3), (4, .int x4), (5, .int x5), (6, .long x6), (8, .long x8), (10, .int x10), (13, .int x13), (14, .int x14)]) hx hb dX7_byMoults_99 hl (by decide) rfl (fun ls hl => ?_)
            refine lv_aload_n hx hb dX7_byMoults_101 rfl (lv_at hl 1 rfl) ?_
            refine lv_sipush (v := (nI 240)) hx hb dX7_byMoults_102 (si_240) ?_
            refine lv_iload hx hb dX7_byMoults_105 (lv_at hl 11 rfl) ?_
            obtain ⟨⟨r107, f_107⟩, hc107, hf⟩ := bd_e hf
            try dsimp only at hf
            refine cl_i_same (Wd := (wX7 G ad f_)) (W' := (wX7 G ad f_107)) (va_runV (As := [.int (nI 240), .int x14]) (rest := []) hC (c_X7_weekOn l G ad f_ (nI 240) x14 r107 f_107 hc107 _) (cwV 2 hts gX7_byMoults_X7_weekOn rfl rfl rfl (by decide +kernel) ⟨Nat.le_of_ble_eq_true rfl, Nat.le_of_ble_eq_true rfl⟩) ⟨Pc0_blind, va_recv hT hP (q0 := 0) (ci := 7) rfl rfl, fun U hU hW => Pc0_at hE hP hD hU hW⟩ rfl rfl hl.1 rfl (lv_room (Nat.le_of_ble_eq_true rfl)) dX7_byMoults_107 ⟨Nat.zero_le _, Nat.zero_le _⟩) hS hA hD (fun H locs hP hD hS => ?_)
            refine lv_pop hx hb dX7_byMoults_110 rfl ?_
            refine lv_iinc (v := (x13 + nI 1)) (lv' := [(13, .int (x13 + nI 1)), (11, .long (s1 * s0)), (0, .ref (ad 0)), (1, .int x1), (2, .int x2), (3, .int x3), (4, .int x4), (5, .int x5), (6, .long x6), (8, .long x8), (10, .int x10), (14, .int x14)]) hx hb dX7_byMoults_111 hl (k := 10) rfl (ii_x 1 _) (by decide) rfl (fun ls hl => ?_)
            refine lv_goto (tgt := 56) hx hb dX7_byMoults_114 (by decide) ?_
            have hK9 := K_of hf hK
            have hK9 := hW56 _ hK9
            exact hK9 _ _ _ hP hD hS (lv_sub hl [2, 3, 4, 5, 6, 7, 8, 9, 10, 1, 0] rfl)
          have hB79 : ∀ (f_ : Mem) (x11 : Int64) (x13 : Int32) (s0 : Int32) (res : (Int64 × Int32 × Mem) ⊕ (Int64 × Mem)) (hf : p_X7_byMoults_B79 f_ x1 x2 x3 x4 x5 x6 x8 x10 x11 x13 s0 = some res) (hK : K56 res), ∀ (H : Heap) (locs : List Loc) (ls : Array Slot), va_P G.1 vwCl (wX7 G ad f_) H → va_D A (wX7 G ad f_) → va_S A s.heap H locs → lv_has ls 15 [(0, .ref (ad 0)), (1, .int x1), (2, .int x2), (3, .int x3), (4, .int x4), (5, .int x5), (6, .long x6), (8, .long x8), (10, .int x10), (11, .long x11), (13, .int x13)] → W p l e ({ frames := 5, cells := 0, slots := 0, locals := 108 }) s m args below meth c H locs 0 0 Q (F0 m 79 ls [.int s0]) := by
            intro f_ x11 x13 s0 res hf hK H locs ls hP hD hS hl
            unfold p_X7_byMoults_B79 at hf
            refine lv_istore (lv' := [(14, .int s0), (0, .ref (ad 0)), (1, .int x1), (2, .int x2), (3, .int x3), (4, .int x4), (5, .int x5), (6, .long x6), (8, .long x8), (10, .int x10), (11, .long x11), (13, .int x13)]) hx hb dX7_byMoults_79 hl (by decide) rfl (fun ls hl => ?_)
            refine lv_lload hx hb dX7_byMoults_81 (lv_at hl 10 rfl) ?_
            refine lv_iload hx hb dX7_byMoults_83 (lv_at hl 0 rfl) ?_
            refine lv_if_eq (tgt := 93) hx hb dX7_byMoults_85 (by decide) (fun hc => ?_) (fun hc => ?_)
            · have hf := if_t hf hc
              refine lv_bipush (v := (nI 10)) hx hb dX7_byMoults_93 (bi_10) ?_
              refine lv_iload_n hx hb dX7_byMoults_95 rfl (lv_at hl 2 rfl) ?_
              refine lv_isub hx hb dX7_byMoults_96 ?_
              refine lv_i2l (v := (((nI 10) - x1).toInt64)) hx hb dX7_byMoults_97 rfl ?_
              exact hB98 f_ x13 s0 (((nI 10) - x1).toInt64) x11 _ hf hK _ _ _ hP hD hS (lv_sub hl [1, 2, 3, 4, 5, 6, 7, 8, 9, 11, 0] rfl)
            · have hf := if_f hf hc
              refine lv_iload_n hx hb dX7_byMoults_88 rfl (lv_at hl 2 rfl) ?_
              refine lv_i2l (v := ((x1).toInt64)) hx hb dX7_byMoults_89 rfl ?_
              refine lv_goto (tgt := 98) hx hb dX7_byMoults_90 (by decide) ?_
              exact hB98 f_ x13 s0 ((x1).toInt64) x11 _ hf hK _ _ _ hP hD hS (lv_sub hl [1, 2, 3, 4, 5, 6, 7, 8, 9, 11, 0] rfl)
          rintro ⟨x11, x13, f_⟩ res hf hK H locs ls hP hD hS hl
          unfold p_X7_byMoults_L56 at hf
          dsimp only at hf
          refine lv_iload hx hb dX7_byMoults_56 (lv_at hl 10 rfl) ?_
          refine lv_iload hx hb dX7_byMoults_58 (lv_at hl 4 rfl) ?_
          refine lv_icmp_ge (tgt := 117) hx hb dX7_byMoults_60 (by decide) (fun hc => ?_) (fun hc => ?_)
          · have hf := if_t hf hc
            have hK9 := K_of hf hK
            have hK9 := hX56 _ hK9
            exact hK9 _ _ _ hP hD hS (lv_sub hl [0, 1, 2, 3, 4, 5, 6, 7, 8, 9] rfl)
          · have hf := if_f hf hc
            refine lv_iload hx hb dX7_byMoults_63 (lv_at hl 8 rfl) ?_
            refine lv_iload hx hb dX7_byMoults_65 (lv_at hl 10 rfl) ?_
            refine lv_ishr hx hb dX7_byMoults_67 ?_
            refine lv_iconst (v := (nI 1)) hx hb dX7_byMoults_68 (ic_1) ?_
            refine lv_iand hx hb dX7_byMoults_69 ?_
            refine lv_iconst (v := (nI 1)) hx hb dX7_byMoults_70 (ic_1) ?_
            refine lv_icmp_ne (tgt := 78) hx hb dX7_byMoults_71 (by decide) (fun hc => ?_) (fun hc => ?_)
            · have hf := if_f hf hc
              refine lv_iconst (v := (nI 0)) hx hb dX7_byMoults_78 (ic_0) ?_
              exact hB79 f_ x11 x13 (nI 0) _ hf hK _ _ _ hP hD hS (lv_sub hl [0, 1, 2, 3, 4, 5, 6, 7, 8, 9, 10] rfl)
            · have hf := if_t hf hc
              refine lv_iconst (v := (nI 1)) hx hb dX7_byMoults_74 (ic_1) ?_
              refine lv_goto (tgt := 79) hx hb dX7_byMoults_75 (by decide) ?_
              exact hB79 f_ x11 x13 (nI 1) _ hf hK _ _ _ hP hD hS (lv_sub hl [0, 1, 2, 3, 4, 5, 6, 7, 8, 9, 10] rfl)
        · try dsimp only at hf
          show ∀ (H : Heap) (locs : List Loc) (ls : Array Slot), va_P G.1 vwCl (wX7 G ad f_56) H → va_D A (wX7 G ad f_56) → va_S A s.heap H locs → lv_has ls 15 [(0, .ref (ad 0)), (1, .int x1), (2, .int x2), (3, .int x3), (4, .int x4), (5, .int x5), (6, .long x6), (8, .long x8), (10, .int x10), (11, .long y11_56)] → W p l e ({ frames := 5, cells := 0, slots := 0, locals := 108 }) s m args below meth c H locs 0 0 Q (F0 m 117 ls [])
          intro H locs ls hP hD hS hl
          refine lv_lload hx hb dX7_byMoults_117 (lv_at hl 6 rfl) ?_
          refine lv_lload hx hb dX7_byMoults_119 (lv_at hl 9 rfl) ?_
          refine lv_iload_n hx hb dX7_byMoults_121 rfl (lv_at hl 3 rfl) ?_
          refine lv_bipush (v := (-4 : Int32)) hx hb dX7_byMoults_122 (bi_m4) ?_
          refine lv_icmp_ne (tgt := 138) hx hb dX7_byMoults_124 (by decide) (fun hc => ?_) (fun hc => ?_)
          · have hf := if_f hf hc
            refine lv_aload_n hx hb dX7_byMoults_138 rfl (lv_at hl 0 rfl) ?_
            refine lv_sipush (v := (nI 240)) hx hb dX7_byMoults_139 (si_240) ?_
            refine lv_iload_n hx hb dX7_byMoults_142 rfl (lv_at hl 2 rfl) ?_
            obtain ⟨r143, hc143, hf⟩ := bd_e hf
            refine cl_i_same (Wd := (wX7 G ad f_56)) (W' := (wX7 G ad f_56)) (va_runV (As := [.int (nI 240), .int x2]) (rest := [.long y11_56, .long x6]) hC (c_X7_eggOn l G ad f_56 (nI 240) x2 r143 hc143 _) (cwV 2 hts gX7_byMoults_X7_eggOn rfl rfl rfl (by decide +kernel) ⟨Nat.le_of_ble_eq_true rfl, Nat.le_of_ble_eq_true rfl⟩) ⟨Pc0_blind, va_recv hT hP (q0 := 0) (ci := 7) rfl rfl, fun U hU hW => Pc0_at hE hP hD hU hW⟩ rfl rfl hl.1 rfl (lv_room (Nat.le_of_ble_eq_true rfl)) dX7_byMoults_143 ⟨Nat.zero_le _, Nat.zero_le _⟩) hS hA hD (fun H locs hP hD hS => ?_)
            refine lv_iload_n hx hb dX7_byMoults_146 rfl (lv_at hl 3 rfl) ?_
            refine lv_icmp_ne (tgt := 154) hx hb dX7_byMoults_147 (by decide) (fun hc => ?_) (fun hc => ?_)
            · have hf := if_f hf hc
              refine lv_iconst (v := (nI 0)) hx hb dX7_byMoults_154 (ic_0) ?_
              exact hB155 f_56 x10 (nI 0) y11_56 x6 _ hf hK _ _ _ hP hD hS (lv_sub hl [0, 1, 2, 3, 4, 5, 7, 8] rfl)
            · have hf := if_t hf hc
              refine lv_iconst (v := (nI 1)) hx hb dX7_byMoults_150 (ic_1) ?_
              refine lv_goto (tgt := 155) hx hb dX7_byMoults_151 (by decide) ?_
              exact hB155 f_56 x10 (nI 1) y11_56 x6 _ hf hK _ _ _ hP hD hS (lv_sub hl [0, 1, 2, 3, 4, 5, 7, 8] rfl)
          · have hf := if_t hf hc
            refine lv_aload_n hx hb dX7_byMoults_127 rfl (lv_at hl 0 rfl) ?_
            refine lv_sipush (v := (nI 240)) hx hb dX7_byMoults_128 (si_240) ?_
            refine lv_iload_n hx hb dX7_byMoults_131 rfl (lv_at hl 2 rfl) ?_
            obtain ⟨r132, hc132, hf⟩ := bd_e hf
            refine cl_i_same (Wd := (wX7 G ad f_56)) (W' := (wX7 G ad f_56)) (va_runV (As := [.int (nI 240), .int x2]) (rest := [.long y11_56, .long x6]) hC (c_X7_feathersOn l G ad f_56 (nI 240) x2 r132 hc132 _) (cwV 2 hts gX7_byMoults_X7_feathersOn rfl rfl rfl (by decide +kernel) ⟨Nat.le_of_ble_eq_true rfl, Nat.le_of_ble_eq_true rfl⟩) ⟨Pc0_blind, va_recv hT hP (q0 := 0) (ci := 7) rfl rfl, fun U hU hW => Pc0_at hE hP hD hU hW⟩ rfl rfl hl.1 rfl (lv_room (Nat.le_of_ble_eq_true rfl)) dX7_byMoults_132 ⟨Nat.zero_le _, Nat.zero_le _⟩) hS hA hD (fun H locs hP hD hS => ?_)
            refine lv_goto (tgt := 155) hx hb dX7_byMoults_135 (by decide) ?_
            exact hB155 f_56 x10 r132 y11_56 x6 _ hf hK _ _ _ hP hD hS (lv_sub hl [0, 1, 2, 3, 4, 5, 7, 8] rfl)
    · try dsimp only at hf
      show ∀ (H : Heap) (locs : List Loc) (ls : Array Slot), va_P G.1 vwCl (wX7 G ad f_33) H → va_D A (wX7 G ad f_33) → va_S A s.heap H locs → lv_has ls 15 [(5, .int x5), (6, .long y6_33), (8, .long y8_9)] → W p l e ({ frames := 5, cells := 0, slots := 0, locals := 108 }) s m args below meth c H locs 0 0 Q (F0 m 166 ls [])
      intro H locs ls hP hD hS hl
      refine lv_lload hx hb dX7_byMoults_166 (lv_at hl 1 rfl) ?_
      refine lv_lload hx hb dX7_byMoults_168 (lv_at hl 2 rfl) ?_
      refine lv_iload hx hb dX7_byMoults_170 (lv_at hl 0 rfl) ?_
      obtain ⟨r172, hc172, hf⟩ := bd_e hf
      refine cl_l_ro (Wd := (wX7 G ad f_33)) (Wc := ([] : va_W)) [] rfl (va_runS (As := [.long y6_33, .long y8_9, .int x5]) (rest := []) hC (c_X7_lowest l G y6_33 y8_9 x5 r172 hc172 _) (va_cwS 3 hts gX7_byMoults_X7_lowest rfl rfl rfl (by decide +kernel) ⟨Nat.le_of_ble_eq_true rfl, Nat.le_of_ble_eq_true rfl⟩) ⟨Pc0_blind, fun U hU hW => Pc0_at (Wd := ([] : va_W)) hE (hP.subm [] rfl) (hD.sub [] (by decide) rfl) hU hW⟩ rfl rfl hl.1 rfl (lv_room (Nat.le_of_ble_eq_true rfl)) dX7_byMoults_172 ⟨Nat.zero_le _, Nat.zero_le _⟩) hS hA hP hD (fun H locs hP hD hS => ?_)
      have hK9 := K0_of hf hK
      exact hRet r172 f_33 _ _ _ _ hK9 dX7_byMoults_175 hP hD hS
noncomputable def p_X7_luck_B65 (f : Mem) : Option (Int64 × Mem) :=
  some ((-1 : Int64), f)
noncomputable def p_X7_luck (f : Mem) (x1 : Int32) (x2 : Int32) (x3 : Int32) (x4 : Int32) (x5 : Int32) : Option (Int64 × Mem) :=
  Option.bind (p_X7_in ((x1).toInt64) (lN 0) (10 : Int64)) <| fun r6 =>
  if r6 = 0 then
    (p_X7_luck_B65 f)
  else
    (Option.bind (p_X7_isGoose f x2) <| fun r14 =>
     if r14 = 0 then
       (p_X7_luck_B65 f)
     else
       (Option.bind (p_X7_isOwner x3) <| fun r21 =>
        if r21 = 0 then
          (p_X7_luck_B65 f)
        else
          (Option.bind (p_X7_in ((x4).toInt64) (lN 0) (8 : Int64)) <| fun r34 =>
           if r34 = 0 then
             (p_X7_luck_B65 f)
           else
             (Option.bind (p_X7_in ((x5).toInt64) (lN 0) (lN 1)) <| fun r45 =>
              if r45 = 0 then
                (p_X7_luck_B65 f)
              else
                (Option.bind (p_X7_byMoults f x1 x2 x3 x4 x5) <| fun (r59, f_59) =>
                 some (r59, f_59))))))
set_option maxHeartbeats 4000000 in
set_option maxRecDepth 100000 in
theorem c_X7_luck (l : Launch) (G : Gt) (ad : Nat → Nat) (f : Mem) (x1 : Int32) (x2 : Int32) (x3 : Int32) (x4 : Int32) (x5 : Int32) (r : Int64) (fz : Mem) (hf : p_X7_luck f x1 x2 x3 x4 x5 = some (r, fz)) (sz : Nat) : Met l yX7_luck wsX7_luck ({ frames := 6, cells := 0, slots := 0, locals := 142 }) (Pc0 G sz [.ref (ad 0), .int x1, .int x2, .int x3, .int x4, .int x5] (wX7 G ad f)) (Ql0 G (va_A (wX7 G ad f) sz) r (wX7 G ad fz)) 0 0 (va_A (wX7 G ad f) sz) := by
  refine metP (Qf := fun A => Ql0 G A r (wX7 G ad fz)) cX7_luck 6 (some .long) (by decide) rfl (Nat.le_of_ble_eq_true rfl) ?_
  intro p e s m below meth c A ls hC hr hlocks hin hE hA hsz hP hD hS hl
  generalize hargs : ([.ref (ad 0), .int x1, .int x2, .int x3, .int x4, .int x5] : List Value).toArray = args at hC ⊢
  obtain ⟨hx, hb, hml, hown, hts⟩ := id hC
  have hT : va_K G.1 vwCl (tyL G) s := hE.1
  have hRet : ∀ (r9 : Int64) (f9 : Mem) (H : Heap) (locs : List Loc) (ls : Array Slot) (pc : Nat) (hK9 : (r9, f9) = (r, fz)) (hdg : decode cX7_luck pc = .ok (.lreturn, 1)), va_P G.1 vwCl (wX7 G ad f9) H → va_D A (wX7 G ad f9) → va_S A s.heap H locs → W p l e ({ frames := 6, cells := 0, slots := 0, locals := 142 }) s m args below meth c H locs 0 0 (MQ below (Ql0 G A r (wX7 G ad fz)) args s 0 0 A) (F0 m pc ls [.long r9]) := by
    intro r9 f9 H locs ls pc hK9 hdg hP hD hS
    cases hK9
    exact W.lret hx hb hr (fun t ht hW => ⟨⟨r, (), rfl, rfl, by rw [ht]; exact hP, hD⟩, hS.F ht⟩) hS.2.2 hdg hlocks
  generalize MQ below (Ql0 G A r (wX7 G ad fz)) args s 0 0 A = Q at hRet ⊢
  have hl : lv_has ls 6 [(0, .ref (ad 0)), (1, .int x1), (2, .int x2), (3, .int x3), (4, .int x4), (5, .int x5)] := hl
  have hK0 : (r, fz) = (r, fz) := rfl
  have hB65 : ∀ (f : Mem) (res : Int64 × Mem) (hf : p_X7_luck_B65 f = some res) (hK : res = (r, fz)), ∀ (H : Heap) (locs : List Loc) (ls : Array Slot), va_P G.1 vwCl (wX7 G ad f) H → va_D A (wX7 G ad f) → va_S A s.heap H locs → lv_has ls 6 [] → W p l e ({ frames := 6, cells := 0, slots := 0, locals := 142 }) s m args below meth c H locs 0 0 Q (F0 m 65 ls []) := by
    intro f res hf hK H locs ls hP hD hS hl
    unfold p_X7_luck_B65 at hf
    refine W.ldc2 (v := (-1 : Int64)) hx hb hown (hts (.constantLong RX7 268 (-1 : Int64)) (by decide +kernel)) rfl dX7_luck_65 ?_
    refine W.eq (g2 := F0 m 68 ls [.long (-1 : Int64)]) rfl ?_
    have hK9 := K0_of hf hK
    exact hRet (-1 : Int64) f _ _ _ _ hK9 dX7_luck_68 hP hD hS
  obtain ⟨res, hres, hK⟩ : ∃ res, p_X7_luck f x1 x2 x3 x4 x5 = some res ∧ res = (r, fz) := ⟨_, hf, rfl⟩
  clear hf
  have hf := hres
  clear hres
  unfold p_X7_luck at hf
  refine lv_iload_n hx hb dX7_luck_0 rfl (lv_at hl 1 rfl) ?_
  refine lv_i2l (v := ((x1).toInt64)) hx hb dX7_luck_1 rfl ?_
  refine lv_lconst (v := (lN 0)) hx hb dX7_luck_2 rfl ?_
  refine W.ldc2 (v := (10 : Int64)) hx hb hown (hts (.constantLong RX7 255 (10 : Int64)) (by decide +kernel)) rfl dX7_luck_3 ?_
  refine W.eq (g2 := F0 m 6 ls [.long (10 : Int64), .long (lN 0), .long ((x1).toInt64)]) rfl ?_
  obtain ⟨r6, hc6, hf⟩ := bd_e hf
  refine cl_z_ro (Wd := (wX7 G ad f)) (Wc := ([] : va_W)) [] rfl (va_runS (As := [.long ((x1).toInt64), .long (lN 0), .long (10 : Int64)]) (rest := []) hC (c_X7_in l G ((x1).toInt64) (lN 0) (10 : Int64) r6 hc6 _) (va_cwS 3 hts gX7_luck_X7_in rfl rfl rfl (by decide +kernel) ⟨Nat.le_of_ble_eq_true rfl, Nat.le_of_ble_eq_true rfl⟩) ⟨Pc0_blind, fun U hU hW => Pc0_at (Wd := ([] : va_W)) hE (hP.subm [] rfl) (hD.sub [] (by decide) rfl) hU hW⟩ rfl rfl hl.1 rfl (lv_room (Nat.le_of_ble_eq_true rfl)) dX7_luck_6 ⟨Nat.zero_le _, Nat.zero_le _⟩) hS hA hP hD (fun H locs hn6 hP hD hS => ?_)
  refine lv_if_eq (tgt := 65) hx hb dX7_luck_9 (by decide) (fun hc => ?_) (fun hc => ?_)
  · have hf := if_t hf hc
    exact hB65 f _ hf hK _ _ _ hP hD hS (lv_sub hl [] rfl)
  · have hf := if_f hf hc
    refine lv_aload_n hx hb dX7_luck_12 rfl (lv_at hl 0 rfl) ?_
    refine lv_iload_n hx hb dX7_luck_13 rfl (lv_at hl 2 rfl) ?_
    obtain ⟨r14, hc14, hf⟩ := bd_e hf
    refine cl_z_same (Wd := (wX7 G ad f)) (W' := (wX7 G ad f)) (va_runV (As := [.int x2]) (rest := []) hC (c_X7_isGoose l G ad f x2 r14 hc14 _) (cwV 1 hts gX7_luck_X7_isGoose rfl rfl rfl (by decide +kernel) ⟨Nat.le_of_ble_eq_true rfl, Nat.le_of_ble_eq_true rfl⟩) ⟨Pc0_blind, va_recv hT hP (q0 := 0) (ci := 7) rfl rfl, fun U hU hW => Pc0_at hE hP hD hU hW⟩ rfl rfl hl.1 rfl (lv_room (Nat.le_of_ble_eq_true rfl)) dX7_luck_14 ⟨Nat.zero_le _, Nat.zero_le _⟩) hS hA hD (fun H locs hn14 hP hD hS => ?_)
    refine lv_if_eq (tgt := 65) hx hb dX7_luck_17 (by decide) (fun hc => ?_) (fun hc => ?_)
    · have hf := if_t hf hc
      exact hB65 f _ hf hK _ _ _ hP hD hS (lv_sub hl [] rfl)
    · have hf := if_f hf hc
      refine lv_iload_n hx hb dX7_luck_20 rfl (lv_at hl 3 rfl) ?_
      obtain ⟨r21, hc21, hf⟩ := bd_e hf
      refine cl_z_ro (Wd := (wX7 G ad f)) (Wc := ([] : va_W)) [] rfl (va_runS (As := [.int x3]) (rest := []) hC (c_X7_isOwner l G x3 r21 hc21 _) (va_cwS 1 hts gX7_luck_X7_isOwner rfl rfl rfl (by decide +kernel) ⟨Nat.le_of_ble_eq_true rfl, Nat.le_of_ble_eq_true rfl⟩) ⟨Pc0_blind, fun U hU hW => Pc0_at (Wd := ([] : va_W)) hE (hP.subm [] rfl) (hD.sub [] (by decide) rfl) hU hW⟩ rfl rfl hl.1 rfl (lv_room (Nat.le_of_ble_eq_true rfl)) dX7_luck_21 ⟨Nat.zero_le _, Nat.zero_le _⟩) hS hA hP hD (fun H locs hn21 hP hD hS => ?_)
      refine lv_if_eq (tgt := 65) hx hb dX7_luck_24 (by decide) (fun hc => ?_) (fun hc => ?_)
      · have hf := if_t hf hc
        exact hB65 f _ hf hK _ _ _ hP hD hS (lv_sub hl [] rfl)
      · have hf := if_f hf hc
        refine lv_iload hx hb dX7_luck_27 (lv_at hl 4 rfl) ?_
        refine lv_i2l (v := ((x4).toInt64)) hx hb dX7_luck_29 rfl ?_
        refine lv_lconst (v := (lN 0)) hx hb dX7_luck_30 rfl ?_
        refine W.ldc2 (v := (8 : Int64)) hx hb hown (hts (.constantLong RX7 274 (8 : Int64)) (by decide +kernel)) rfl dX7_luck_31 ?_
        refine W.eq (g2 := F0 m 34 ls [.long (8 : Int64), .long (lN 0), .long ((x4).toInt64)]) rfl ?_
        obtain ⟨r34, hc34, hf⟩ := bd_e hf
        refine cl_z_ro (Wd := (wX7 G ad f)) (Wc := ([] : va_W)) [] rfl (va_runS (As := [.long ((x4).toInt64), .long (lN 0), .long (8 : Int64)]) (rest := []) hC (c_X7_in l G ((x4).toInt64) (lN 0) (8 : Int64) r34 hc34 _) (va_cwS 3 hts gX7_luck_X7_in rfl rfl rfl (by decide +kernel) ⟨Nat.le_of_ble_eq_true rfl, Nat.le_of_ble_eq_true rfl⟩) ⟨Pc0_blind, fun U hU hW => Pc0_at (Wd := ([] : va_W)) hE (hP.subm [] rfl) (hD.sub [] (by decide) rfl) hU hW⟩ rfl rfl hl.1 rfl (lv_room (Nat.le_of_ble_eq_true rfl)) dX7_luck_34 ⟨Nat.zero_le _, Nat.zero_le _⟩) hS hA hP hD (fun H locs hn34 hP hD hS => ?_)
        refine lv_if_eq (tgt := 65) hx hb dX7_luck_37 (by decide) (fun hc => ?_) (fun hc => ?_)
        · have hf := if_t hf hc
          exact hB65 f _ hf hK _ _ _ hP hD hS (lv_sub hl [] rfl)
        · have hf := if_f hf hc
          refine lv_iload hx hb dX7_luck_40 (lv_at hl 5 rfl) ?_
          refine lv_i2l (v := ((x5).toInt64)) hx hb dX7_luck_42 rfl ?_
          refine lv_lconst (v := (lN 0)) hx hb dX7_luck_43 rfl ?_
          refine lv_lconst (v := (lN 1)) hx hb dX7_luck_44 rfl ?_
          obtain ⟨r45, hc45, hf⟩ := bd_e hf
          refine cl_z_ro (Wd := (wX7 G ad f)) (Wc := ([] : va_W)) [] rfl (va_runS (As := [.long ((x5).toInt64), .long (lN 0), .long (lN 1)]) (rest := []) hC (c_X7_in l G ((x5).toInt64) (lN 0) (lN 1) r45 hc45 _) (va_cwS 3 hts gX7_luck_X7_in rfl rfl rfl (by decide +kernel) ⟨Nat.le_of_ble_eq_true rfl, Nat.le_of_ble_eq_true rfl⟩) ⟨Pc0_blind, fun U hU hW => Pc0_at (Wd := ([] : va_W)) hE (hP.subm [] rfl) (hD.sub [] (by decide) rfl) hU hW⟩ rfl rfl hl.1 rfl (lv_room (Nat.le_of_ble_eq_true rfl)) dX7_luck_45 ⟨Nat.zero_le _, Nat.zero_le _⟩) hS hA hP hD (fun H locs hn45 hP hD hS => ?_)
          refine lv_if_eq (tgt := 65) hx hb dX7_luck_48 (by decide) (fun hc => ?_) (fun hc => ?_)
          · have hf := if_t hf hc
            exact hB65 f _ hf hK _ _ _ hP hD hS (lv_sub hl [] rfl)
          · have hf := if_f hf hc
            refine lv_aload_n hx hb dX7_luck_51 rfl (lv_at hl 0 rfl) ?_
            refine lv_iload_n hx hb dX7_luck_52 rfl (lv_at hl 1 rfl) ?_
            refine lv_iload_n hx hb dX7_luck_53 rfl (lv_at hl 2 rfl) ?_
            refine lv_iload_n hx hb dX7_luck_54 rfl (lv_at hl 3 rfl) ?_
            refine lv_iload hx hb dX7_luck_55 (lv_at hl 4 rfl) ?_
            refine lv_iload hx hb dX7_luck_57 (lv_at hl 5 rfl) ?_
            obtain ⟨⟨r59, f_59⟩, hc59, hf⟩ := bd_e hf
            try dsimp only at hf
            refine cl_l_same (Wd := (wX7 G ad f)) (W' := (wX7 G ad f_59)) (va_runV (As := [.int x1, .int x2, .int x3, .int x4, .int x5]) (rest := []) hC (c_X7_byMoults l G ad f x1 x2 x3 x4 x5 r59 f_59 hc59 _) (cwV 5 hts gX7_luck_X7_byMoults rfl rfl rfl (by decide +kernel) ⟨Nat.le_of_ble_eq_true rfl, Nat.le_of_ble_eq_true rfl⟩) ⟨Pc0_blind, va_recv hT hP (q0 := 0) (ci := 7) rfl rfl, fun U hU hW => Pc0_at hE hP hD hU hW⟩ rfl rfl hl.1 rfl (lv_room (Nat.le_of_ble_eq_true rfl)) dX7_luck_59 ⟨Nat.zero_le _, Nat.zero_le _⟩) hS hA hD (fun H locs hP hD hS => ?_)
            refine lv_goto (tgt := 68) hx hb dX7_luck_62 (by decide) ?_
            have hK9 := K0_of hf hK
            exact hRet r59 f_59 _ _ _ _ hK9 dX7_luck_68 hP hD hS
noncomputable def p_X7_mean_B57 (f : Mem) : Option (Int64 × Mem) :=
  some ((-1 : Int64), f)
noncomputable def p_X7_mean (f : Mem) (x1 : Int32) (x2 : Int32) (x3 : Int32) (x4 : Int32) : Option (Int64 × Mem) :=
  Option.bind (p_X7_in ((x1).toInt64) (lN 0) (10 : Int64)) <| fun r6 =>
  if r6 = 0 then
    (p_X7_mean_B57 f)
  else
    (Option.bind (p_X7_isGoose f x2) <| fun r14 =>
     if r14 = 0 then
       (p_X7_mean_B57 f)
     else
       (Option.bind (p_X7_in ((x3).toInt64) (lN 0) (8 : Int64)) <| fun r26 =>
        if r26 = 0 then
          (p_X7_mean_B57 f)
        else
          (Option.bind (p_X7_in ((x4).toInt64) (lN 0) (lN 1)) <| fun r37 =>
           if r37 = 0 then
             (p_X7_mean_B57 f)
           else
             (Option.bind (p_X7_byMoults f x1 x2 (-4 : Int32) x3 x4) <| fun (r51, f_51) =>
              some (r51, f_51)))))
set_option maxHeartbeats 4000000 in
set_option maxRecDepth 100000 in
theorem c_X7_mean (l : Launch) (G : Gt) (ad : Nat → Nat) (f : Mem) (x1 : Int32) (x2 : Int32) (x3 : Int32) (x4 : Int32) (r : Int64) (fz : Mem) (hf : p_X7_mean f x1 x2 x3 x4 = some (r, fz)) (sz : Nat) : Met l yX7_mean wsX7_mean ({ frames := 6, cells := 0, slots := 0, locals := 142 }) (Pc0 G sz [.ref (ad 0), .int x1, .int x2, .int x3, .int x4] (wX7 G ad f)) (Ql0 G (va_A (wX7 G ad f) sz) r (wX7 G ad fz)) 0 0 (va_A (wX7 G ad f) sz) := by
  refine metP (Qf := fun A => Ql0 G A r (wX7 G ad fz)) cX7_mean 5 (some .long) (by decide) rfl (Nat.le_of_ble_eq_true rfl) ?_
  intro p e s m below meth c A ls hC hr hlocks hin hE hA hsz hP hD hS hl
  generalize hargs : ([.ref (ad 0), .int x1, .int x2, .int x3, .int x4] : List Value).toArray = args at hC ⊢
  obtain ⟨hx, hb, hml, hown, hts⟩ := id hC
  have hT : va_K G.1 vwCl (tyL G) s := hE.1
  have hRet : ∀ (r9 : Int64) (f9 : Mem) (H : Heap) (locs : List Loc) (ls : Array Slot) (pc : Nat) (hK9 : (r9, f9) = (r, fz)) (hdg : decode cX7_mean pc = .ok (.lreturn, 1)), va_P G.1 vwCl (wX7 G ad f9) H → va_D A (wX7 G ad f9) → va_S A s.heap H locs → W p l e ({ frames := 6, cells := 0, slots := 0, locals := 142 }) s m args below meth c H locs 0 0 (MQ below (Ql0 G A r (wX7 G ad fz)) args s 0 0 A) (F0 m pc ls [.long r9]) := by
    intro r9 f9 H locs ls pc hK9 hdg hP hD hS
    cases hK9
    exact W.lret hx hb hr (fun t ht hW => ⟨⟨r, (), rfl, rfl, by rw [ht]; exact hP, hD⟩, hS.F ht⟩) hS.2.2 hdg hlocks
  generalize MQ below (Ql0 G A r (wX7 G ad fz)) args s 0 0 A = Q at hRet ⊢
  have hl : lv_has ls 5 [(0, .ref (ad 0)), (1, .int x1), (2, .int x2), (3, .int x3), (4, .int x4)] := hl
  have hK0 : (r, fz) = (r, fz) := rfl
  have hB57 : ∀ (f : Mem) (res : Int64 × Mem) (hf : p_X7_mean_B57 f = some res) (hK : res = (r, fz)), ∀ (H : Heap) (locs : List Loc) (ls : Array Slot), va_P G.1 vwCl (wX7 G ad f) H → va_D A (wX7 G ad f) → va_S A s.heap H locs → lv_has ls 5 [] → W p l e ({ frames := 6, cells := 0, slots := 0, locals := 142 }) s m args below meth c H locs 0 0 Q (F0 m 57 ls []) := by
    intro f res hf hK H locs ls hP hD hS hl
    unfold p_X7_mean_B57 at hf
    refine W.ldc2 (v := (-1 : Int64)) hx hb hown (hts (.constantLong RX7 268 (-1 : Int64)) (by decide +kernel)) rfl dX7_mean_57 ?_
    refine W.eq (g2 := F0 m 60 ls [.long (-1 : Int64)]) rfl ?_
    have hK9 := K0_of hf hK
    exact hRet (-1 : Int64) f _ _ _ _ hK9 dX7_mean_60 hP hD hS
  obtain ⟨res, hres, hK⟩ : ∃ res, p_X7_mean f x1 x2 x3 x4 = some res ∧ res = (r, fz) := ⟨_, hf, rfl⟩
  clear hf
  have hf := hres
  clear hres
  unfold p_X7_mean at hf
  refine lv_iload_n hx hb dX7_mean_0 rfl (lv_at hl 1 rfl) ?_
  refine lv_i2l (v := ((x1).toInt64)) hx hb dX7_mean_1 rfl ?_
  refine lv_lconst (v := (lN 0)) hx hb dX7_mean_2 rfl ?_
  refine W.ldc2 (v := (10 : Int64)) hx hb hown (hts (.constantLong RX7 255 (10 : Int64)) (by decide +kernel)) rfl dX7_mean_3 ?_
  refine W.eq (g2 := F0 m 6 ls [.long (10 : Int64), .long (lN 0), .long ((x1).toInt64)]) rfl ?_
  obtain ⟨r6, hc6, hf⟩ := bd_e hf
  refine cl_z_ro (Wd := (wX7 G ad f)) (Wc := ([] : va_W)) [] rfl (va_runS (As := [.long ((x1).toInt64), .long (lN 0), .long (10 : Int64)]) (rest := []) hC (c_X7_in l G ((x1).toInt64) (lN 0) (10 : Int64) r6 hc6 _) (va_cwS 3 hts gX7_mean_X7_in rfl rfl rfl (by decide +kernel) ⟨Nat.le_of_ble_eq_true rfl, Nat.le_of_ble_eq_true rfl⟩) ⟨Pc0_blind, fun U hU hW => Pc0_at (Wd := ([] : va_W)) hE (hP.subm [] rfl) (hD.sub [] (by decide) rfl) hU hW⟩ rfl rfl hl.1 rfl (lv_room (Nat.le_of_ble_eq_true rfl)) dX7_mean_6 ⟨Nat.zero_le _, Nat.zero_le _⟩) hS hA hP hD (fun H locs hn6 hP hD hS => ?_)
  refine lv_if_eq (tgt := 57) hx hb dX7_mean_9 (by decide) (fun hc => ?_) (fun hc => ?_)
  · have hf := if_t hf hc
    exact hB57 f _ hf hK _ _ _ hP hD hS (lv_sub hl [] rfl)
  · have hf := if_f hf hc
    refine lv_aload_n hx hb dX7_mean_12 rfl (lv_at hl 0 rfl) ?_
    refine lv_iload_n hx hb dX7_mean_13 rfl (lv_at hl 2 rfl) ?_
    obtain ⟨r14, hc14, hf⟩ := bd_e hf
    refine cl_z_same (Wd := (wX7 G ad f)) (W' := (wX7 G ad f)) (va_runV (As := [.int x2]) (rest := []) hC (c_X7_isGoose l G ad f x2 r14 hc14 _) (cwV 1 hts gX7_mean_X7_isGoose rfl rfl rfl (by decide +kernel) ⟨Nat.le_of_ble_eq_true rfl, Nat.le_of_ble_eq_true rfl⟩) ⟨Pc0_blind, va_recv hT hP (q0 := 0) (ci := 7) rfl rfl, fun U hU hW => Pc0_at hE hP hD hU hW⟩ rfl rfl hl.1 rfl (lv_room (Nat.le_of_ble_eq_true rfl)) dX7_mean_14 ⟨Nat.zero_le _, Nat.zero_le _⟩) hS hA hD (fun H locs hn14 hP hD hS => ?_)
    refine lv_if_eq (tgt := 57) hx hb dX7_mean_17 (by decide) (fun hc => ?_) (fun hc => ?_)
    · have hf := if_t hf hc
      exact hB57 f _ hf hK _ _ _ hP hD hS (lv_sub hl [] rfl)
    · have hf := if_f hf hc
      refine lv_iload_n hx hb dX7_mean_20 rfl (lv_at hl 3 rfl) ?_
      refine lv_i2l (v := ((x3).toInt64)) hx hb dX7_mean_21 rfl ?_
      refine lv_lconst (v := (lN 0)) hx hb dX7_mean_22 rfl ?_
      refine W.ldc2 (v := (8 : Int64)) hx hb hown (hts (.constantLong RX7 274 (8 : Int64)) (by decide +kernel)) rfl dX7_mean_23 ?_
      refine W.eq (g2 := F0 m 26 ls [.long (8 : Int64), .long (lN 0), .long ((x3).toInt64)]) rfl ?_
      obtain ⟨r26, hc26, hf⟩ := bd_e hf
      refine cl_z_ro (Wd := (wX7 G ad f)) (Wc := ([] : va_W)) [] rfl (va_runS (As := [.long ((x3).toInt64), .long (lN 0), .long (8 : Int64)]) (rest := []) hC (c_X7_in l G ((x3).toInt64) (lN 0) (8 : Int64) r26 hc26 _) (va_cwS 3 hts gX7_mean_X7_in rfl rfl rfl (by decide +kernel) ⟨Nat.le_of_ble_eq_true rfl, Nat.le_of_ble_eq_true rfl⟩) ⟨Pc0_blind, fun U hU hW => Pc0_at (Wd := ([] : va_W)) hE (hP.subm [] rfl) (hD.sub [] (by decide) rfl) hU hW⟩ rfl rfl hl.1 rfl (lv_room (Nat.le_of_ble_eq_true rfl)) dX7_mean_26 ⟨Nat.zero_le _, Nat.zero_le _⟩) hS hA hP hD (fun H locs hn26 hP hD hS => ?_)
      refine lv_if_eq (tgt := 57) hx hb dX7_mean_29 (by decide) (fun hc => ?_) (fun hc => ?_)
      · have hf := if_t hf hc
        exact hB57 f _ hf hK _ _ _ hP hD hS (lv_sub hl [] rfl)
      · have hf := if_f hf hc
        refine lv_iload hx hb dX7_mean_32 (lv_at hl 4 rfl) ?_
        refine lv_i2l (v := ((x4).toInt64)) hx hb dX7_mean_34 rfl ?_
        refine lv_lconst (v := (lN 0)) hx hb dX7_mean_35 rfl ?_
        refine lv_lconst (v := (lN 1)) hx hb dX7_mean_36 rfl ?_
        obtain ⟨r37, hc37, hf⟩ := bd_e hf
        refine cl_z_ro (Wd := (wX7 G ad f)) (Wc := ([] : va_W)) [] rfl (va_runS (As := [.long ((x4).toInt64), .long (lN 0), .long (lN 1)]) (rest := []) hC (c_X7_in l G ((x4).toInt64) (lN 0) (lN 1) r37 hc37 _) (va_cwS 3 hts gX7_mean_X7_in rfl rfl rfl (by decide +kernel) ⟨Nat.le_of_ble_eq_true rfl, Nat.le_of_ble_eq_true rfl⟩) ⟨Pc0_blind, fun U hU hW => Pc0_at (Wd := ([] : va_W)) hE (hP.subm [] rfl) (hD.sub [] (by decide) rfl) hU hW⟩ rfl rfl hl.1 rfl (lv_room (Nat.le_of_ble_eq_true rfl)) dX7_mean_37 ⟨Nat.zero_le _, Nat.zero_le _⟩) hS hA hP hD (fun H locs hn37 hP hD hS => ?_)
        refine lv_if_eq (tgt := 57) hx hb dX7_mean_40 (by decide) (fun hc => ?_) (fun hc => ?_)
        · have hf := if_t hf hc
          exact hB57 f _ hf hK _ _ _ hP hD hS (lv_sub hl [] rfl)
        · have hf := if_f hf hc
          refine lv_aload_n hx hb dX7_mean_43 rfl (lv_at hl 0 rfl) ?_
          refine lv_iload_n hx hb dX7_mean_44 rfl (lv_at hl 1 rfl) ?_
          refine lv_iload_n hx hb dX7_mean_45 rfl (lv_at hl 2 rfl) ?_
          refine lv_bipush (v := (-4 : Int32)) hx hb dX7_mean_46 (bi_m4) ?_
          refine lv_iload_n hx hb dX7_mean_48 rfl (lv_at hl 3 rfl) ?_
          refine lv_iload hx hb dX7_mean_49 (lv_at hl 4 rfl) ?_
          obtain ⟨⟨r51, f_51⟩, hc51, hf⟩ := bd_e hf
          try dsimp only at hf
          refine cl_l_same (Wd := (wX7 G ad f)) (W' := (wX7 G ad f_51)) (va_runV (As := [.int x1, .int x2, .int (-4 : Int32), .int x3, .int x4]) (rest := []) hC (c_X7_byMoults l G ad f x1 x2 (-4 : Int32) x3 x4 r51 f_51 hc51 _) (cwV 5 hts gX7_mean_X7_byMoults rfl rfl rfl (by decide +kernel) ⟨Nat.le_of_ble_eq_true rfl, Nat.le_of_ble_eq_true rfl⟩) ⟨Pc0_blind, va_recv hT hP (q0 := 0) (ci := 7) rfl rfl, fun U hU hW => Pc0_at hE hP hD hU hW⟩ rfl rfl hl.1 rfl (lv_room (Nat.le_of_ble_eq_true rfl)) dX7_mean_51 ⟨Nat.zero_le _, Nat.zero_le _⟩) hS hA hD (fun H locs hP hD hS => ?_)
          refine lv_goto (tgt := 60) hx hb dX7_mean_54 (by decide) ?_
          have hK9 := K0_of hf hK
          exact hRet r51 f_51 _ _ _ _ hK9 dX7_mean_60 hP hD hS
noncomputable def p_X7_see (f : Mem) (x1 : Int32) (x2 : Int32) (x3 : Int32) (x4 : Int32) : Option (Int32 × Mem) :=
  Option.bind (p_X7_isGoose f x1) <| fun r2 =>
  if r2 = 0 then
    (some ((-1 : Int32), f))
  else
    (Option.bind (p_X7_isOwner x2) <| fun r9 =>
     if r9 = 0 then
       (some ((-1 : Int32), f))
     else
       (Option.bind (p_X7_in ((x3).toInt64) (lN 0) (20 : Int64)) <| fun r21 =>
        if r21 = 0 then
          (some ((-1 : Int32), f))
        else
          (Option.bind (p_X7_in ((x4).toInt64) (lN 0) (99 : Int64)) <| fun r34 =>
           if r34 = 0 then
             (some ((-1 : Int32), f))
           else
             (if (f 0 21) = (nI 6) then
                (some ((-3 : Int32), f))
              else
                (gd (inb ((nI 4) * (f 0 21)) 24) <|
                 bnd (upd (f 6) ((nI 4) * (f 0 21)).toNatClampNeg x1) <| fun g65 =>
                 gd (inb (((nI 4) * (f 0 21)) + (nI 1)) 24) <|
                 bnd (upd (g65) (((nI 4) * (f 0 21)) + (nI 1)).toNatClampNeg x2) <| fun g79 =>
                 gd (inb (((nI 4) * (f 0 21)) + (nI 2)) 24) <|
                 bnd (upd (g79) (((nI 4) * (f 0 21)) + (nI 2)).toNatClampNeg x3) <| fun g93 =>
                 gd (inb (((nI 4) * (f 0 21)) + (nI 3)) 24) <|
                 bnd (upd (g93) (((nI 4) * (f 0 21)) + (nI 3)).toNatClampNeg x4) <| fun g108 =>
                 some (((f 0 21) + (nI 1)), (mset 0 21 ((f 0 21) + (nI 1)) (mrow 6 (g108) (mrow 6 (g93) (mrow 6 (g79) (mrow 6 (g65) f)))))))))))
set_option maxHeartbeats 4000000 in
set_option maxRecDepth 100000 in
theorem c_X7_see (l : Launch) (G : Gt) (ad : Nat → Nat) (f : Mem) (x1 : Int32) (x2 : Int32) (x3 : Int32) (x4 : Int32) (r : Int32) (fz : Mem) (hf : p_X7_see f x1 x2 x3 x4 = some (r, fz)) (sz : Nat) : Met l yX7_see wsX7_see ({ frames := 3, cells := 0, slots := 0, locals := 58 }) (Pc0 G sz [.ref (ad 0), .int x1, .int x2, .int x3, .int x4] (wX7 G ad f)) (Qi0 G (va_A (wX7 G ad f) sz) r (wX7 G ad fz)) 0 0 (va_A (wX7 G ad f) sz) := by
  refine metP (Qf := fun A => Qi0 G A r (wX7 G ad fz)) cX7_see 5 (some .int) (by decide) rfl (Nat.le_of_ble_eq_true rfl) ?_
  intro p e s m below meth c A ls hC hr hlocks hin hE hA hsz hP hD hS hl
  generalize hargs : ([.ref (ad 0), .int x1, .int x2, .int x3, .int x4] : List Value).toArray = args at hC ⊢
  obtain ⟨hx, hb, hml, hown, hts⟩ := id hC
  have hT : va_K G.1 vwCl (tyL G) s := hE.1
  have hRet : ∀ (r9 : Int32) (f9 : Mem) (H : Heap) (locs : List Loc) (ls : Array Slot) (pc : Nat) (hK9 : (r9, f9) = (r, fz)) (hdg : decode cX7_see pc = .ok (.ireturn, 1)), va_P G.1 vwCl (wX7 G ad f9) H → va_D A (wX7 G ad f9) → va_S A s.heap H locs → W p l e ({ frames := 3, cells := 0, slots := 0, locals := 58 }) s m args below meth c H locs 0 0 (MQ below (Qi0 G A r (wX7 G ad fz)) args s 0 0 A) (F0 m pc ls [.int r9]) := by
    intro r9 f9 H locs ls pc hK9 hdg hP hD hS
    cases hK9
    exact W.iret hx hb hr (fun t ht hW => ⟨⟨r, (), rfl, rfl, by rw [ht]; exact hP, hD⟩, hS.F ht⟩) hS.2.2 hdg hlocks
  generalize MQ below (Qi0 G A r (wX7 G ad fz)) args s 0 0 A = Q at hRet ⊢
  have lk131 := hts (.fieldLink RX7 131 "FeatherSharesModel" "seenMany" "I") (by decide +kernel)
  have inX7 : ∀ w ∈ u_ws RX7 TX7 34, w ∈ wsX7_see := by decide +kernel
  have lk25 := hts (.fieldLink RX7 25 "FeatherSharesModel" "seen" "[I") (by decide +kernel)
  have hl : lv_has ls 5 [(0, .ref (ad 0)), (1, .int x1), (2, .int x2), (3, .int x3), (4, .int x4)] := hl
  have hK0 : (r, fz) = (r, fz) := rfl
  obtain ⟨res, hres, hK⟩ : ∃ res, p_X7_see f x1 x2 x3 x4 = some res ∧ res = (r, fz) := ⟨_, hf, rfl⟩
  clear hf
  have hf := hres
  clear hres
  unfold p_X7_see at hf
  refine lv_aload_n hx hb dX7_see_0 rfl (lv_at hl 0 rfl) ?_
  refine lv_iload_n hx hb dX7_see_1 rfl (lv_at hl 1 rfl) ?_
  obtain ⟨r2, hc2, hf⟩ := bd_e hf
  refine cl_z_same (Wd := (wX7 G ad f)) (W' := (wX7 G ad f)) (va_runV (As := [.int x1]) (rest := []) hC (c_X7_isGoose l G ad f x1 r2 hc2 _) (cwV 1 hts gX7_see_X7_isGoose rfl rfl rfl (by decide +kernel) ⟨Nat.le_of_ble_eq_true rfl, Nat.le_of_ble_eq_true rfl⟩) ⟨Pc0_blind, va_recv hT hP (q0 := 0) (ci := 7) rfl rfl, fun U hU hW => Pc0_at hE hP hD hU hW⟩ rfl rfl hl.1 rfl (lv_room (Nat.le_of_ble_eq_true rfl)) dX7_see_2 ⟨Nat.zero_le _, Nat.zero_le _⟩) hS hA hD (fun H locs hn2 hP hD hS => ?_)
  refine lv_if_eq (tgt := 40) hx hb dX7_see_5 (by decide) (fun hc => ?_) (fun hc => ?_)
  · have hf := if_t hf hc
    refine lv_iconst (v := (-1 : Int32)) hx hb dX7_see_40 (ic_m1) ?_
    have hK9 := K0_of hf hK
    exact hRet (-1 : Int32) f _ _ _ _ hK9 dX7_see_41 hP hD hS
  · have hf := if_f hf hc
    refine lv_iload_n hx hb dX7_see_8 rfl (lv_at hl 2 rfl) ?_
    obtain ⟨r9, hc9, hf⟩ := bd_e hf
    refine cl_z_ro (Wd := (wX7 G ad f)) (Wc := ([] : va_W)) [] rfl (va_runS (As := [.int x2]) (rest := []) hC (c_X7_isOwner l G x2 r9 hc9 _) (va_cwS 1 hts gX7_see_X7_isOwner rfl rfl rfl (by decide +kernel) ⟨Nat.le_of_ble_eq_true rfl, Nat.le_of_ble_eq_true rfl⟩) ⟨Pc0_blind, fun U hU hW => Pc0_at (Wd := ([] : va_W)) hE (hP.subm [] rfl) (hD.sub [] (by decide) rfl) hU hW⟩ rfl rfl hl.1 rfl (lv_room (Nat.le_of_ble_eq_true rfl)) dX7_see_9 ⟨Nat.zero_le _, Nat.zero_le _⟩) hS hA hP hD (fun H locs hn9 hP hD hS => ?_)
    refine lv_if_eq (tgt := 40) hx hb dX7_see_12 (by decide) (fun hc => ?_) (fun hc => ?_)
    · have hf := if_t hf hc
      refine lv_iconst (v := (-1 : Int32)) hx hb dX7_see_40 (ic_m1) ?_
      have hK9 := K0_of hf hK
      exact hRet (-1 : Int32) f _ _ _ _ hK9 dX7_see_41 hP hD hS
    · have hf := if_f hf hc
      refine lv_iload_n hx hb dX7_see_15 rfl (lv_at hl 3 rfl) ?_
      refine lv_i2l (v := ((x3).toInt64)) hx hb dX7_see_16 rfl ?_
      refine lv_lconst (v := (lN 0)) hx hb dX7_see_17 rfl ?_
      refine W.ldc2 (v := (20 : Int64)) hx hb hown (hts (.constantLong RX7 280 (20 : Int64)) (by decide +kernel)) rfl dX7_see_18 ?_
      refine W.eq (g2 := F0 m 21 ls [.long (20 : Int64), .long (lN 0), .long ((x3).toInt64)]) rfl ?_
      obtain ⟨r21, hc21, hf⟩ := bd_e hf
      refine cl_z_ro (Wd := (wX7 G ad f)) (Wc := ([] : va_W)) [] rfl (va_runS (As := [.long ((x3).toInt64), .long (lN 0), .long (20 : Int64)]) (rest := []) hC (c_X7_in l G ((x3).toInt64) (lN 0) (20 : Int64) r21 hc21 _) (va_cwS 3 hts gX7_see_X7_in rfl rfl rfl (by decide +kernel) ⟨Nat.le_of_ble_eq_true rfl, Nat.le_of_ble_eq_true rfl⟩) ⟨Pc0_blind, fun U hU hW => Pc0_at (Wd := ([] : va_W)) hE (hP.subm [] rfl) (hD.sub [] (by decide) rfl) hU hW⟩ rfl rfl hl.1 rfl (lv_room (Nat.le_of_ble_eq_true rfl)) dX7_see_21 ⟨Nat.zero_le _, Nat.zero_le _⟩) hS hA hP hD (fun H locs hn21 hP hD hS => ?_)
      refine lv_if_eq (tgt := 40) hx hb dX7_see_24 (by decide) (fun hc => ?_) (fun hc => ?_)
      · have hf := if_t hf hc
        refine lv_iconst (v := (-1 : Int32)) hx hb dX7_see_40 (ic_m1) ?_
        have hK9 := K0_of hf hK
        exact hRet (-1 : Int32) f _ _ _ _ hK9 dX7_see_41 hP hD hS
      · have hf := if_f hf hc
        refine lv_iload hx hb dX7_see_27 (lv_at hl 4 rfl) ?_
        refine lv_i2l (v := ((x4).toInt64)) hx hb dX7_see_29 rfl ?_
        refine lv_lconst (v := (lN 0)) hx hb dX7_see_30 rfl ?_
        refine W.ldc2 (v := (99 : Int64)) hx hb hown (hts (.constantLong RX7 182 (99 : Int64)) (by decide +kernel)) rfl dX7_see_31 ?_
        refine W.eq (g2 := F0 m 34 ls [.long (99 : Int64), .long (lN 0), .long ((x4).toInt64)]) rfl ?_
        obtain ⟨r34, hc34, hf⟩ := bd_e hf
        refine cl_z_ro (Wd := (wX7 G ad f)) (Wc := ([] : va_W)) [] rfl (va_runS (As := [.long ((x4).toInt64), .long (lN 0), .long (99 : Int64)]) (rest := []) hC (c_X7_in l G ((x4).toInt64) (lN 0) (99 : Int64) r34 hc34 _) (va_cwS 3 hts gX7_see_X7_in rfl rfl rfl (by decide +kernel) ⟨Nat.le_of_ble_eq_true rfl, Nat.le_of_ble_eq_true rfl⟩) ⟨Pc0_blind, fun U hU hW => Pc0_at (Wd := ([] : va_W)) hE (hP.subm [] rfl) (hD.sub [] (by decide) rfl) hU hW⟩ rfl rfl hl.1 rfl (lv_room (Nat.le_of_ble_eq_true rfl)) dX7_see_34 ⟨Nat.zero_le _, Nat.zero_le _⟩) hS hA hP hD (fun H locs hn34 hP hD hS => ?_)
        refine lv_if_ne (tgt := 42) hx hb dX7_see_37 (by decide) (fun hc => ?_) (fun hc => ?_)
        · have hf := if_f hf hc
          refine lv_aload_n hx hb dX7_see_42 rfl (lv_at hl 0 rfl) ?_
          refine va_get (C := RX7) (T := TX7) (N := 34) (ci := 7) (v := .int (f 0 21)) hx hb hts inX7 hown hT hP 0 rfl rfl 27 (Nat.le_of_ble_eq_true rfl) lk131 (fun _ h => h) rfl dX7_see_43 ?_
          refine lv_bipush (v := (nI 6)) hx hb dX7_see_46 (bi_6) ?_
          refine lv_icmp_ne (tgt := 54) hx hb dX7_see_48 (by decide) (fun hc => ?_) (fun hc => ?_)
          · have hf := if_f hf hc
            refine lv_aload_n hx hb dX7_see_54 rfl (lv_at hl 0 rfl) ?_
            refine va_get (C := RX7) (T := TX7) (N := 34) (ci := 7) (v := .ref (ad 6)) hx hb hts inX7 hown hT hP 0 rfl rfl 26 (Nat.le_of_ble_eq_true rfl) lk25 (fun _ h => h) rfl dX7_see_55 ?_
            refine lv_iconst (v := (nI 4)) hx hb dX7_see_58 (ic_4) ?_
            refine lv_aload_n hx hb dX7_see_59 rfl (lv_at hl 0 rfl) ?_
            refine va_get (C := RX7) (T := TX7) (N := 34) (ci := 7) (v := .int (f 0 21)) hx hb hts inX7 hown hT hP 0 rfl rfl 27 (Nat.le_of_ble_eq_true rfl) lk131 (fun _ h => h) rfl dX7_see_60 ?_
            refine lv_imul hx hb dX7_see_63 ?_
            refine lv_iload_n hx hb dX7_see_64 rfl (lv_at hl 1 rfl) ?_
            obtain ⟨hg, hf⟩ := gd_e hf
            obtain ⟨g65, eg65, hf⟩ := bnd_e hf
            refine va_iast (f := f 6) hx hb hT hP hD hS 6 0 rfl rfl (inb_e hg) dX7_see_65 (fun H locs hP hD hS => ?_)
            rw [← eg65] at hP hD
            have hP : va_P G.1 vwCl (wX7 G ad (mrow 6 (g65) f)) H := hP
            have hD : va_D A (wX7 G ad (mrow 6 (g65) f)) := hD
            refine lv_aload_n hx hb dX7_see_66 rfl (lv_at hl 0 rfl) ?_
            refine va_get (C := RX7) (T := TX7) (N := 34) (ci := 7) (v := .ref (ad 6)) hx hb hts inX7 hown hT hP 0 rfl rfl 26 (Nat.le_of_ble_eq_true rfl) lk25 (fun _ h => h) rfl dX7_see_67 ?_
            refine lv_iconst (v := (nI 4)) hx hb dX7_see_70 (ic_4) ?_
            refine lv_aload_n hx hb dX7_see_71 rfl (lv_at hl 0 rfl) ?_
            refine va_get (C := RX7) (T := TX7) (N := 34) (ci := 7) (v := .int (f 0 21)) hx hb hts inX7 hown hT hP 0 rfl rfl 27 (Nat.le_of_ble_eq_true rfl) lk131 (fun _ h => h) rfl dX7_see_72 ?_
            refine lv_imul hx hb dX7_see_75 ?_
            refine lv_iconst (v := (nI 1)) hx hb dX7_see_76 (ic_1) ?_
            refine lv_iadd hx hb dX7_see_77 ?_
            refine lv_iload_n hx hb dX7_see_78 rfl (lv_at hl 2 rfl) ?_
            obtain ⟨hg, hf⟩ := gd_e hf
            obtain ⟨g79, eg79, hf⟩ := bnd_e hf
            refine va_iast (f := g65) hx hb hT hP hD hS 6 0 rfl rfl (inb_e hg) dX7_see_79 (fun H locs hP hD hS => ?_)
            rw [← eg79] at hP hD
            have hP : va_P G.1 vwCl (wX7 G ad (mrow 6 (g79) (mrow 6 (g65) f))) H := hP
            have hD : va_D A (wX7 G ad (mrow 6 (g79) (mrow 6 (g65) f))) := hD
            refine lv_aload_n hx hb dX7_see_80 rfl (lv_at hl 0 rfl) ?_
            refine va_get (C := RX7) (T := TX7) (N := 34) (ci := 7) (v := .ref (ad 6)) hx hb hts inX7 hown hT hP 0 rfl rfl 26 (Nat.le_of_ble_eq_true rfl) lk25 (fun _ h => h) rfl dX7_see_81 ?_
            refine lv_iconst (v := (nI 4)) hx hb dX7_see_84 (ic_4) ?_
            refine lv_aload_n hx hb dX7_see_85 rfl (lv_at hl 0 rfl) ?_
            refine va_get (C := RX7) (T := TX7) (N := 34) (ci := 7) (v := .int (f 0 21)) hx hb hts inX7 hown hT hP 0 rfl rfl 27 (Nat.le_of_ble_eq_true rfl) lk131 (fun _ h => h) rfl dX7_see_86 ?_
            refine lv_imul hx hb dX7_see_89 ?_
            refine lv_iconst (v := (nI 2)) hx hb dX7_see_90 (ic_2) ?_
            refine lv_iadd hx hb dX7_see_91 ?_
            refine lv_iload_n hx hb dX7_see_92 rfl (lv_at hl 3 rfl) ?_
            obtain ⟨hg, hf⟩ := gd_e hf
            obtain ⟨g93, eg93, hf⟩ := bnd_e hf
            refine va_iast (f := g79) hx hb hT hP hD hS 6 0 rfl rfl (inb_e hg) dX7_see_93 (fun H locs hP hD hS => ?_)
            rw [← eg93] at hP hD
            have hP : va_P G.1 vwCl (wX7 G ad (mrow 6 (g93) (mrow 6 (g79) (mrow 6 (g65) f)))) H := hP
            have hD : va_D A (wX7 G ad (mrow 6 (g93) (mrow 6 (g79) (mrow 6 (g65) f)))) := hD
            refine lv_aload_n hx hb dX7_see_94 rfl (lv_at hl 0 rfl) ?_
            refine va_get (C := RX7) (T := TX7) (N := 34) (ci := 7) (v := .ref (ad 6)) hx hb hts inX7 hown hT hP 0 rfl rfl 26 (Nat.le_of_ble_eq_true rfl) lk25 (fun _ h => h) rfl dX7_see_95 ?_
            refine lv_iconst (v := (nI 4)) hx hb dX7_see_98 (ic_4) ?_
            refine lv_aload_n hx hb dX7_see_99 rfl (lv_at hl 0 rfl) ?_
            refine va_get (C := RX7) (T := TX7) (N := 34) (ci := 7) (v := .int (f 0 21)) hx hb hts inX7 hown hT hP 0 rfl rfl 27 (Nat.le_of_ble_eq_true rfl) lk131 (fun _ h => h) rfl dX7_see_100 ?_
            refine lv_imul hx hb dX7_see_103 ?_
            refine lv_iconst (v := (nI 3)) hx hb dX7_see_104 (ic_3) ?_
            refine lv_iadd hx hb dX7_see_105 ?_
            refine lv_iload hx hb dX7_see_106 (lv_at hl 4 rfl) ?_
            obtain ⟨hg, hf⟩ := gd_e hf
            obtain ⟨g108, eg108, hf⟩ := bnd_e hf
            refine va_iast (f := g93) hx hb hT hP hD hS 6 0 rfl rfl (inb_e hg) dX7_see_108 (fun H locs hP hD hS => ?_)
            rw [← eg108] at hP hD
            have hP : va_P G.1 vwCl (wX7 G ad (mrow 6 (g108) (mrow 6 (g93) (mrow 6 (g79) (mrow 6 (g65) f))))) H := hP
            have hD : va_D A (wX7 G ad (mrow 6 (g108) (mrow 6 (g93) (mrow 6 (g79) (mrow 6 (g65) f))))) := hD
            refine lv_aload_n hx hb dX7_see_109 rfl (lv_at hl 0 rfl) ?_
            refine lv_dup hx hb dX7_see_110 rfl ?_
            refine va_get (C := RX7) (T := TX7) (N := 34) (ci := 7) (v := .int (f 0 21)) hx hb hts inX7 hown hT hP 0 rfl rfl 27 (Nat.le_of_ble_eq_true rfl) lk131 (fun _ h => h) rfl dX7_see_111 ?_
            refine lv_iconst (v := (nI 1)) hx hb dX7_see_114 (ic_1) ?_
            refine lv_iadd hx hb dX7_see_115 ?_
            refine va_put (C := RX7) (T := TX7) (N := 34) (ci := 7) (ty := .int) (v := .int ((f 0 21) + (nI 1))) hx hb hts inX7 tyX7 tyX7_ok nmX7 hown hT hP hD hS 0 rfl rfl 27 (Nat.le_of_ble_eq_true rfl) lk131 (fun _ h => h) rfl (by decide +kernel) rfl rfl (Nat.le_of_ble_eq_true rfl) dX7_see_116 (fun H locs hP hD hS => ?_)
            have hP : va_P G.1 vwCl (wX7 G ad (mset 0 21 ((f 0 21) + (nI 1)) (mrow 6 (g108) (mrow 6 (g93) (mrow 6 (g79) (mrow 6 (g65) f)))))) H := hP
            have hD : va_D A (wX7 G ad (mset 0 21 ((f 0 21) + (nI 1)) (mrow 6 (g108) (mrow 6 (g93) (mrow 6 (g79) (mrow 6 (g65) f)))))) := hD
            refine lv_aload_n hx hb dX7_see_119 rfl (lv_at hl 0 rfl) ?_
            refine va_get (C := RX7) (T := TX7) (N := 34) (ci := 7) (v := .int ((f 0 21) + (nI 1))) hx hb hts inX7 hown hT hP 0 rfl rfl 27 (Nat.le_of_ble_eq_true rfl) lk131 (fun _ h => h) rfl dX7_see_120 ?_
            have hK9 := K0_of hf hK
            exact hRet ((f 0 21) + (nI 1)) (mset 0 21 ((f 0 21) + (nI 1)) (mrow 6 (g108) (mrow 6 (g93) (mrow 6 (g79) (mrow 6 (g65) f))))) _ _ _ _ hK9 dX7_see_123 hP hD hS
          · have hf := if_t hf hc
            refine lv_bipush (v := (-3 : Int32)) hx hb dX7_see_51 (bi_m3) ?_
            have hK9 := K0_of hf hK
            exact hRet (-3 : Int32) f _ _ _ _ hK9 dX7_see_53 hP hD hS
        · have hf := if_t hf hc
          refine lv_iconst (v := (-1 : Int32)) hx hb dX7_see_40 (ic_m1) ?_
          have hK9 := K0_of hf hK
          exact hRet (-1 : Int32) f _ _ _ _ hK9 dX7_see_41 hP hD hS
noncomputable def p_X7_forget (f : Mem) (x1 : Int32) : Option (Int32 × Mem) :=
  Option.bind (p_X7_in ((x1).toInt64) (lN 0) ((f 0 21).toInt64)) <| fun r8 =>
  if r8 = 0 then
    (some ((-1 : Int32), f))
  else
    (some ((f 0 21), (mset 0 21 x1 f)))
set_option maxHeartbeats 4000000 in
set_option maxRecDepth 100000 in
theorem c_X7_forget (l : Launch) (G : Gt) (ad : Nat → Nat) (f : Mem) (x1 : Int32) (r : Int32) (fz : Mem) (hf : p_X7_forget f x1 = some (r, fz)) (sz : Nat) : Met l yX7_forget wsX7_forget ({ frames := 2, cells := 0, slots := 0, locals := 37 }) (Pc0 G sz [.ref (ad 0), .int x1] (wX7 G ad f)) (Qi0 G (va_A (wX7 G ad f) sz) r (wX7 G ad fz)) 0 0 (va_A (wX7 G ad f) sz) := by
  refine metP (Qf := fun A => Qi0 G A r (wX7 G ad fz)) cX7_forget 3 (some .int) (by decide) rfl (Nat.le_of_ble_eq_true rfl) ?_
  intro p e s m below meth c A ls hC hr hlocks hin hE hA hsz hP hD hS hl
  generalize hargs : ([.ref (ad 0), .int x1] : List Value).toArray = args at hC ⊢
  obtain ⟨hx, hb, hml, hown, hts⟩ := id hC
  have hT : va_K G.1 vwCl (tyL G) s := hE.1
  have hRet : ∀ (r9 : Int32) (f9 : Mem) (H : Heap) (locs : List Loc) (ls : Array Slot) (pc : Nat) (hK9 : (r9, f9) = (r, fz)) (hdg : decode cX7_forget pc = .ok (.ireturn, 1)), va_P G.1 vwCl (wX7 G ad f9) H → va_D A (wX7 G ad f9) → va_S A s.heap H locs → W p l e ({ frames := 2, cells := 0, slots := 0, locals := 37 }) s m args below meth c H locs 0 0 (MQ below (Qi0 G A r (wX7 G ad fz)) args s 0 0 A) (F0 m pc ls [.int r9]) := by
    intro r9 f9 H locs ls pc hK9 hdg hP hD hS
    cases hK9
    exact W.iret hx hb hr (fun t ht hW => ⟨⟨r, (), rfl, rfl, by rw [ht]; exact hP, hD⟩, hS.F ht⟩) hS.2.2 hdg hlocks
  generalize MQ below (Qi0 G A r (wX7 G ad fz)) args s 0 0 A = Q at hRet ⊢
  have lk131 := hts (.fieldLink RX7 131 "FeatherSharesModel" "seenMany" "I") (by decide +kernel)
  have inX7 : ∀ w ∈ u_ws RX7 TX7 34, w ∈ wsX7_forget := by decide +kernel
  have hl : lv_has ls 3 [(0, .ref (ad 0)), (1, .int x1)] := hl
  have hK0 : (r, fz) = (r, fz) := rfl
  obtain ⟨res, hres, hK⟩ : ∃ res, p_X7_forget f x1 = some res ∧ res = (r, fz) := ⟨_, hf, rfl⟩
  clear hf
  have hf := hres
  clear hres
  unfold p_X7_forget at hf
  refine lv_iload_n hx hb dX7_forget_0 rfl (lv_at hl 1 rfl) ?_
  refine lv_i2l (v := ((x1).toInt64)) hx hb dX7_forget_1 rfl ?_
  refine lv_lconst (v := (lN 0)) hx hb dX7_forget_2 rfl ?_
  refine lv_aload_n hx hb dX7_forget_3 rfl (lv_at hl 0 rfl) ?_
  refine va_get (C := RX7) (T := TX7) (N := 34) (ci := 7) (v := .int (f 0 21)) hx hb hts inX7 hown hT hP 0 rfl rfl 27 (Nat.le_of_ble_eq_true rfl) lk131 (fun _ h => h) rfl dX7_forget_4 ?_
  refine lv_i2l (v := ((f 0 21).toInt64)) hx hb dX7_forget_7 rfl ?_
  obtain ⟨r8, hc8, hf⟩ := bd_e hf
  refine cl_z_ro (Wd := (wX7 G ad f)) (Wc := ([] : va_W)) [] rfl (va_runS (As := [.long ((x1).toInt64), .long (lN 0), .long ((f 0 21).toInt64)]) (rest := []) hC (c_X7_in l G ((x1).toInt64) (lN 0) ((f 0 21).toInt64) r8 hc8 _) (va_cwS 3 hts gX7_forget_X7_in rfl rfl rfl (by decide +kernel) ⟨Nat.le_of_ble_eq_true rfl, Nat.le_of_ble_eq_true rfl⟩) ⟨Pc0_blind, fun U hU hW => Pc0_at (Wd := ([] : va_W)) hE (hP.subm [] rfl) (hD.sub [] (by decide) rfl) hU hW⟩ rfl rfl hl.1 rfl (lv_room (Nat.le_of_ble_eq_true rfl)) dX7_forget_8 ⟨Nat.zero_le _, Nat.zero_le _⟩) hS hA hP hD (fun H locs hn8 hP hD hS => ?_)
  refine lv_if_ne (tgt := 16) hx hb dX7_forget_11 (by decide) (fun hc => ?_) (fun hc => ?_)
  · have hf := if_f hf hc
    refine lv_aload_n hx hb dX7_forget_16 rfl (lv_at hl 0 rfl) ?_
    refine va_get (C := RX7) (T := TX7) (N := 34) (ci := 7) (v := .int (f 0 21)) hx hb hts inX7 hown hT hP 0 rfl rfl 27 (Nat.le_of_ble_eq_true rfl) lk131 (fun _ h => h) rfl dX7_forget_17 ?_
    refine lv_istore_n (lv' := [(2, .int (f 0 21)), (0, .ref (ad 0)), (1, .int x1)]) hx hb dX7_forget_20 rfl hl (by decide) rfl (fun ls hl => ?_)
    refine lv_aload_n hx hb dX7_forget_21 rfl (lv_at hl 1 rfl) ?_
    refine lv_iload_n hx hb dX7_forget_22 rfl (lv_at hl 2 rfl) ?_
    refine va_put (C := RX7) (T := TX7) (N := 34) (ci := 7) (ty := .int) (v := .int x1) hx hb hts inX7 tyX7 tyX7_ok nmX7 hown hT hP hD hS 0 rfl rfl 27 (Nat.le_of_ble_eq_true rfl) lk131 (fun _ h => h) rfl (by decide +kernel) rfl rfl (Nat.le_of_ble_eq_true rfl) dX7_forget_23 (fun H locs hP hD hS => ?_)
    have hP : va_P G.1 vwCl (wX7 G ad (mset 0 21 x1 f)) H := hP
    have hD : va_D A (wX7 G ad (mset 0 21 x1 f)) := hD
    refine lv_iload_n hx hb dX7_forget_26 rfl (lv_at hl 0 rfl) ?_
    have hK9 := K0_of hf hK
    exact hRet (f 0 21) (mset 0 21 x1 f) _ _ _ _ hK9 dX7_forget_27 hP hD hS
  · have hf := if_t hf hc
    refine lv_iconst (v := (-1 : Int32)) hx hb dX7_forget_14 (ic_m1) ?_
    have hK9 := K0_of hf hK
    exact hRet (-1 : Int32) f _ _ _ _ hK9 dX7_forget_15 hP hD hS
noncomputable def p_X7_isAsSeen_L23 (x1 : Int32) (x2 : Int32) (x3 : Int32) (x4 : Int32) (z : Int32 × Mem) : Option ((Int32 × Mem) ⊕ Mem) :=
  match z with
  | (x5, f_) =>
    if (nI 5) ≤ x5 then
      (some (Sum.inr f_))
    else
      (Option.bind (p_X7_shareOn f_ (nI 240) x1 x5) <| fun r52 =>
       gd (inb ((((nI 105) * x2) + ((nI 5) * x4)) + x5) 420) <|
       bnd (upd (f_ 7) ((((nI 105) * x2) + ((nI 5) * x4)) + x5).toNatClampNeg r52) <| fun g55 =>
       some (Sum.inl ((x5 + nI 1), (mrow 7 (g55) f_))))
noncomputable def p_X7_isAsSeen_L65 (f : Mem) (x1 : Int32) (x2 : Int32) (x4 : Int32) (z : Int32 × Int32) : Option ((Int32 × Int32) ⊕ Int32) :=
  match z with
  | (x3, x5) =>
    if (f 0 21) ≤ x5 then
      (some (Sum.inr x3))
    else
      (if x3 = 0 then
         (some (Sum.inl ((nI 0), (x5 + nI 1))))
       else
         (gd (inb (((nI 4) * x5) + (nI 2)) 24) <|
          if (f 6 (((nI 4) * x5) + (nI 2)).toNatClampNeg) = x4 then
            (gd (inb ((nI 4) * x5) 24) <|
             gd (inb (((nI 4) * x5) + (nI 1)) 24) <|
             Option.bind (p_X7_shareOn f (nI 240) (f 6 ((nI 4) * x5).toNatClampNeg) (f 6 (((nI 4) * x5) + (nI 1)).toNatClampNeg)) <| fun r118 =>
             gd (inb (((nI 4) * x5) + (nI 3)) 24) <|
             if r118 = (f 6 (((nI 4) * x5) + (nI 3)).toNatClampNeg) then
               (some (Sum.inl ((nI 1), (x5 + nI 1))))
             else
               (some (Sum.inl ((nI 0), (x5 + nI 1)))))
          else
            (some (Sum.inl ((nI 1), (x5 + nI 1))))))
noncomputable def p_X7_isAsSeen_L13 (x1 : Int32) (x2 : Int32) (z : Int32 × Int32 × Mem) : Option ((Int32 × Int32 × Mem) ⊕ (Int32 × Mem)) :=
  match z with
  | (x3, x4, f_) =>
    if (nI 20) < x4 then
      (some (Sum.inr (x3, f_)))
    else
      (Option.bind (lp (p_X7_isAsSeen_L23 x1 x2 x3 x4) ((nI 0), f_)) <| fun f_23 =>
       Option.bind (lp (p_X7_isAsSeen_L65 f_23 x1 x2 x4) (x3, (nI 0))) <| fun y3_65 =>
       Option.bind (p_X7_weekOn f_23 (nI 240) (nI 1)) <| fun (r152, f_152) =>
       some (Sum.inl (y3_65, (x4 + nI 1), f_152)))
noncomputable def p_X7_isAsSeen (f : Mem) (x1 : Int32) (x2 : Int32) : Option (Int32 × Mem) :=
  Option.bind (p_X7_copies f (nI 0) (nI 240)) <| fun f_5 =>
  Option.bind (lp (p_X7_isAsSeen_L13 x1 x2) ((nI 1), (nI 0), f_5)) <| fun (y3_13, f_13) =>
  gd (zb y3_13) <|
  some (y3_13, f_13)
set_option maxHeartbeats 4000000 in
set_option maxRecDepth 100000 in
theorem c_X7_isAsSeen (l : Launch) (G : Gt) (ad : Nat → Nat) (f : Mem) (x1 : Int32) (x2 : Int32) (r : Int32) (fz : Mem) (hf : p_X7_isAsSeen f x1 x2 = some (r, fz)) (sz : Nat) : Met l yX7_isAsSeen wsX7_isAsSeen ({ frames := 5, cells := 0, slots := 0, locals := 108 }) (Pc0 G sz [.ref (ad 0), .int x1, .int x2] (wX7 G ad f)) (Qz0 G (va_A (wX7 G ad f) sz) r (wX7 G ad fz)) 0 0 (va_A (wX7 G ad f) sz) := by
  refine metP (Qf := fun A => Qz0 G A r (wX7 G ad fz)) cX7_isAsSeen 6 (some .boolean) (by decide) rfl (Nat.le_of_ble_eq_true rfl) ?_
  intro p e s m below meth c A ls hC hr hlocks hin hE hA hsz hP hD hS hl
  generalize hargs : ([.ref (ad 0), .int x1, .int x2] : List Value).toArray = args at hC ⊢
  obtain ⟨hx, hb, hml, hown, hts⟩ := id hC
  have hT : va_K G.1 vwCl (tyL G) s := hE.1
  have hRet : ∀ (r9 : Int32) (f9 : Mem) (H : Heap) (locs : List Loc) (ls : Array Slot) (pc : Nat) (hK9 : (r9, f9) = (r, fz)) (hn9 : narrow .boolean (.int r9) = .int r9) (hdg : decode cX7_isAsSeen pc = .ok (.ireturn, 1)), va_P G.1 vwCl (wX7 G ad f9) H → va_D A (wX7 G ad f9) → va_S A s.heap H locs → W p l e ({ frames := 5, cells := 0, slots := 0, locals := 108 }) s m args below meth c H locs 0 0 (MQ below (Qz0 G A r (wX7 G ad fz)) args s 0 0 A) (F0 m pc ls [.int r9]) := by
    intro r9 f9 H locs ls pc hK9 hn9 hdg hP hD hS
    cases hK9
    exact W.zret hx hb hr hn9 (fun t ht hW => ⟨⟨r, (), rfl, ⟨rfl, hn9⟩, by rw [ht]; exact hP, hD⟩, hS.F ht⟩) hS.2.2 hdg hlocks
  generalize MQ below (Qz0 G A r (wX7 G ad fz)) args s 0 0 A = Q at hRet ⊢
  have lk28 := hts (.fieldLink RX7 28 "FeatherSharesModel" "shareBy" "[I") (by decide +kernel)
  have inX7 : ∀ w ∈ u_ws RX7 TX7 34, w ∈ wsX7_isAsSeen := by decide +kernel
  have lk131 := hts (.fieldLink RX7 131 "FeatherSharesModel" "seenMany" "I") (by decide +kernel)
  have lk25 := hts (.fieldLink RX7 25 "FeatherSharesModel" "seen" "[I") (by decide +kernel)
  have hl : lv_has ls 6 [(0, .ref (ad 0)), (1, .int x1), (2, .int x2)] := hl
  have hK0 : (r, fz) = (r, fz) := rfl
  obtain ⟨res, hres, hK⟩ : ∃ res, p_X7_isAsSeen f x1 x2 = some res ∧ res = (r, fz) := ⟨_, hf, rfl⟩
  clear hf
  have hf := hres
  clear hres
  unfold p_X7_isAsSeen at hf
  refine lv_aload_n hx hb dX7_isAsSeen_0 rfl (lv_at hl 0 rfl) ?_
  refine lv_iconst (v := (nI 0)) hx hb dX7_isAsSeen_1 (ic_0) ?_
  refine lv_sipush (v := (nI 240)) hx hb dX7_isAsSeen_2 (si_240) ?_
  obtain ⟨f_5, hc5, hf⟩ := bd_e hf
  refine cl_v_same (Wd := (wX7 G ad f)) (W' := (wX7 G ad f_5)) (va_runV (As := [.int (nI 0), .int (nI 240)]) (rest := []) hC (c_X7_copies l G ad f (nI 0) (nI 240) f_5 hc5 _) (cwV 2 hts gX7_isAsSeen_X7_copies rfl rfl rfl (by decide +kernel) ⟨Nat.le_of_ble_eq_true rfl, Nat.le_of_ble_eq_true rfl⟩) ⟨Pc0_blind, va_recv hT hP (q0 := 0) (ci := 7) rfl rfl, fun U hU hW => Pc0_at hE hP hD hU hW⟩ rfl rfl hl.1 rfl (lv_room (Nat.le_of_ble_eq_true rfl)) dX7_isAsSeen_5 ⟨Nat.zero_le _, Nat.zero_le _⟩) hS hA hD (fun H locs hP hD hS => ?_)
  refine lv_iconst (v := (nI 1)) hx hb dX7_isAsSeen_8 (ic_1) ?_
  refine lv_istore_n (lv' := [(3, .int (nI 1)), (0, .ref (ad 0)), (1, .int x1), (2, .int x2)]) hx hb dX7_isAsSeen_9 rfl hl (by decide) rfl (fun ls hl => ?_)
  refine lv_iconst (v := (nI 0)) hx hb dX7_isAsSeen_10 (ic_0) ?_
  refine lv_istore (lv' := [(4, .int (nI 0)), (3, .int (nI 1)), (0, .ref (ad 0)), (1, .int x1), (2, .int x2)]) hx hb dX7_isAsSeen_11 hl (by decide) rfl (fun ls hl => ?_)
  obtain ⟨⟨y3_13, f_13⟩, hlp, hf⟩ := bd_e hf
  refine lp_W1 (p_X7_isAsSeen_L13 x1 x2) (fun z => match z with | (x3, x4, f_) => ∀ (H : Heap) (locs : List Loc) (ls : Array Slot), va_P G.1 vwCl (wX7 G ad f_) H → va_D A (wX7 G ad f_) → va_S A s.heap H locs → lv_has ls 6 [(0, .ref (ad 0)), (1, .int x1), (2, .int x2), (3, .int x3), (4, .int x4)] → W p l e ({ frames := 5, cells := 0, slots := 0, locals := 108 }) s m args below meth c H locs 0 0 Q (F0 m 13 ls [])) (fun z => match z with | (y3_13, f_13) => ∀ (H : Heap) (locs : List Loc) (ls : Array Slot), va_P G.1 vwCl (wX7 G ad f_13) H → va_D A (wX7 G ad f_13) → va_S A s.heap H locs → lv_has ls 6 [(3, .int y3_13)] → W p l e ({ frames := 5, cells := 0, slots := 0, locals := 108 }) s m args below meth c H locs 0 0 Q (F0 m 162 ls [])) ?_ hlp ?_ _ _ _ hP hD hS (lv_sub hl [2, 3, 4, 1, 0] rfl)
  · clear hlp hf hK hP hD hS hl
    intro K13 hW13 hX13 
    rintro ⟨x3, x4, f_⟩ res hf hK H locs ls hP hD hS hl
    unfold p_X7_isAsSeen_L13 at hf
    dsimp only at hf
    refine lv_iload hx hb dX7_isAsSeen_13 (lv_at hl 4 rfl) ?_
    refine lv_bipush (v := (nI 20)) hx hb dX7_isAsSeen_15 (bi_20) ?_
    refine lv_icmp_gt (tgt := 162) hx hb dX7_isAsSeen_17 (by decide) (fun hc => ?_) (fun hc => ?_)
    · have hf := if_t hf hc
      have hK9 := K_of hf hK
      have hK9 := hX13 _ hK9
      exact hK9 _ _ _ hP hD hS (lv_sub hl [3] rfl)
    · have hf := if_f hf hc
      refine lv_iconst (v := (nI 0)) hx hb dX7_isAsSeen_20 (ic_0) ?_
      refine lv_istore (lv' := [(5, .int (nI 0)), (0, .ref (ad 0)), (1, .int x1), (2, .int x2), (3, .int x3), (4, .int x4)]) hx hb dX7_isAsSeen_21 hl (by decide) rfl (fun ls hl => ?_)
      obtain ⟨f_23, hlp, hf⟩ := bd_e hf
      refine lp_W1 (p_X7_isAsSeen_L23 x1 x2 x3 x4) (fun z => match z with | (x5, f_) => ∀ (H : Heap) (locs : List Loc) (ls : Array Slot), va_P G.1 vwCl (wX7 G ad f_) H → va_D A (wX7 G ad f_) → va_S A s.heap H locs → lv_has ls 6 [(0, .ref (ad 0)), (1, .int x1), (2, .int x2), (3, .int x3), (4, .int x4), (5, .int x5)] → W p l e ({ frames := 5, cells := 0, slots := 0, locals := 108 }) s m args below meth c H locs 0 0 Q (F0 m 23 ls [])) (fun (f_23 : Mem) => ∀ (H : Heap) (locs : List Loc) (ls : Array Slot), va_P G.1 vwCl (wX7 G ad f_23) H → va_D A (wX7 G ad f_23) → va_S A s.heap H locs → lv_has ls 6 [(0, .ref (ad 0)), (1, .int x1), (2, .int x2), (3, .int x3), (4, .int x4)] → W p l e ({ frames := 5, cells := 0, slots := 0, locals := 108 }) s m args below meth c H locs 0 0 Q (F0 m 62 ls [])) ?_ hlp ?_ _ _ _ hP hD hS (lv_sub hl [1, 2, 3, 4, 5, 0] rfl)
      · clear hlp hf hK hP hD hS hl
        intro K23 hW23 hX23 
        rintro ⟨x5, f_⟩ res hf hK H locs ls hP hD hS hl
        unfold p_X7_isAsSeen_L23 at hf
        dsimp only at hf
        refine lv_iload hx hb dX7_isAsSeen_23 (lv_at hl 5 rfl) ?_
        refine lv_iconst (v := (nI 5)) hx hb dX7_isAsSeen_25 (ic_5) ?_
        refine lv_icmp_ge (tgt := 62) hx hb dX7_isAsSeen_26 (by decide) (fun hc => ?_) (fun hc => ?_)
        · have hf := if_t hf hc
          have hK9 := K_of hf hK
          have hK9 := hX23 _ hK9
          exact hK9 _ _ _ hP hD hS (lv_sub hl [0, 1, 2, 3, 4] rfl)
        · have hf := if_f hf hc
          refine lv_aload_n hx hb dX7_isAsSeen_29 rfl (lv_at hl 0 rfl) ?_
          refine va_get (C := RX7) (T := TX7) (N := 34) (ci := 7) (v := .ref (ad 7)) hx hb hts inX7 hown hT hP 0 rfl rfl 28 (Nat.le_of_ble_eq_true rfl) lk28 (fun _ h => h) rfl dX7_isAsSeen_30 ?_
          refine lv_bipush (v := (nI 105)) hx hb dX7_isAsSeen_33 (bi_105) ?_
          refine lv_iload_n hx hb dX7_isAsSeen_35 rfl (lv_at hl 2 rfl) ?_
          refine lv_imul hx hb dX7_isAsSeen_36 ?_
          refine lv_iconst (v := (nI 5)) hx hb dX7_isAsSeen_37 (ic_5) ?_
          refine lv_iload hx hb dX7_isAsSeen_38 (lv_at hl 4 rfl) ?_
          refine lv_imul hx hb dX7_isAsSeen_40 ?_
          refine lv_iadd hx hb dX7_isAsSeen_41 ?_
          refine lv_iload hx hb dX7_isAsSeen_42 (lv_at hl 5 rfl) ?_
          refine lv_iadd hx hb dX7_isAsSeen_44 ?_
          refine lv_aload_n hx hb dX7_isAsSeen_45 rfl (lv_at hl 0 rfl) ?_
          refine lv_sipush (v := (nI 240)) hx hb dX7_isAsSeen_46 (si_240) ?_
          refine lv_iload_n hx hb dX7_isAsSeen_49 rfl (lv_at hl 1 rfl) ?_
          refine lv_iload hx hb dX7_isAsSeen_50 (lv_at hl 5 rfl) ?_
          obtain ⟨r52, hc52, hf⟩ := bd_e hf
          refine cl_i_same (Wd := (wX7 G ad f_)) (W' := (wX7 G ad f_)) (va_runV (As := [.int (nI 240), .int x1, .int x5]) (rest := [.int ((((nI 105) * x2) + ((nI 5) * x4)) + x5), .ref (ad 7)]) hC (c_X7_shareOn l G ad f_ (nI 240) x1 x5 r52 hc52 _) (cwV 3 hts gX7_isAsSeen_X7_shareOn rfl rfl rfl (by decide +kernel) ⟨Nat.le_of_ble_eq_true rfl, Nat.le_of_ble_eq_true rfl⟩) ⟨Pc0_blind, va_recv hT hP (q0 := 0) (ci := 7) rfl rfl, fun U hU hW => Pc0_at hE hP hD hU hW⟩ rfl rfl hl.1 rfl (lv_room (Nat.le_of_ble_eq_true rfl)) dX7_isAsSeen_52 ⟨Nat.zero_le _, Nat.zero_le _⟩) hS hA hD (fun H locs hP hD hS => ?_)
          obtain ⟨hg, hf⟩ := gd_e hf
          obtain ⟨g55, eg55, hf⟩ := bnd_e hf
          refine va_iast (f := f_ 7) hx hb hT hP hD hS 7 0 rfl rfl (inb_e hg) dX7_isAsSeen_55 (fun H locs hP hD hS => ?_)
          rw [← eg55] at hP hD
          have hP : va_P G.1 vwCl (wX7 G ad (mrow 7 (g55) f_)) H := hP
          have hD : va_D A (wX7 G ad (mrow 7 (g55) f_)) := hD
          refine lv_iinc (v := (x5 + nI 1)) (lv' := [(5, .int (x5 + nI 1)), (0, .ref (ad 0)), (1, .int x1), (2, .int x2), (3, .int x3), (4, .int x4)]) hx hb dX7_isAsSeen_56 hl (k := 5) rfl (ii_x 1 _) (by decide) rfl (fun ls hl => ?_)
          refine lv_goto (tgt := 23) hx hb dX7_isAsSeen_59 (by decide) ?_
          have hK9 := K_of hf hK
          have hK9 := hW23 _ hK9
          exact hK9 _ _ _ hP hD hS (lv_sub hl [1, 2, 3, 4, 5, 0] rfl)
      · try dsimp only at hf
        show ∀ (H : Heap) (locs : List Loc) (ls : Array Slot), va_P G.1 vwCl (wX7 G ad f_23) H → va_D A (wX7 G ad f_23) → va_S A s.heap H locs → lv_has ls 6 [(0, .ref (ad 0)), (1, .int x1), (2, .int x2), (3, .int x3), (4, .int x4)] → W p l e ({ frames := 5, cells := 0, slots := 0, locals := 108 }) s m args below meth c H locs 0 0 Q (F0 m 62 ls [])
        intro H locs ls hP hD hS hl
        refine lv_iconst (v := (nI 0)) hx hb dX7_isAsSeen_62 (ic_0) ?_
        refine lv_istore (lv' := [(5, .int (nI 0)), (0, .ref (ad 0)), (1, .int x1), (2, .int x2), (3, .int x3), (4, .int x4)]) hx hb dX7_isAsSeen_63 hl (by decide) rfl (fun ls hl => ?_)
        obtain ⟨y3_65, hlp, hf⟩ := bd_e hf
        refine lp_W1 (p_X7_isAsSeen_L65 f_23 x1 x2 x4) (fun z => match z with | (x3, x5) => ∀ (H : Heap) (locs : List Loc) (ls : Array Slot), va_P G.1 vwCl (wX7 G ad f_23) H → va_D A (wX7 G ad f_23) → va_S A s.heap H locs → lv_has ls 6 [(0, .ref (ad 0)), (1, .int x1), (2, .int x2), (3, .int x3), (4, .int x4), (5, .int x5)] → W p l e ({ frames := 5, cells := 0, slots := 0, locals := 108 }) s m args below meth c H locs 0 0 Q (F0 m 65 ls [])) (fun (y3_65 : Int32) => ∀ (H : Heap) (locs : List Loc) (ls : Array Slot), va_P G.1 vwCl (wX7 G ad f_23) H → va_D A (wX7 G ad f_23) → va_S A s.heap H locs → lv_has ls 6 [(0, .ref (ad 0)), (1, .int x1), (2, .int x2), (3, .int y3_65), (4, .int x4)] → W p l e ({ frames := 5, cells := 0, slots := 0, locals := 108 }) s m args below meth c H locs 0 0 Q (F0 m 147 ls [])) ?_ hlp ?_ _ _ _ hP hD hS (lv_sub hl [1, 2, 3, 4, 5, 0] rfl)
        · clear hlp hf hK hP hD hS hl
          generalize f_23 = f
          intro K65 hW65 hX65 
          rintro ⟨x3, x5⟩ res hf hK H locs ls hP hD hS hl
          unfold p_X7_isAsSeen_L65 at hf
          dsimp only at hf
          refine lv_iload hx hb dX7_isAsSeen_65 (lv_at hl 5 rfl) ?_
          refine lv_aload_n hx hb dX7_isAsSeen_67 rfl (lv_at hl 0 rfl) ?_
          refine va_get (C := RX7) (T := TX7) (N := 34) (ci := 7) (v := .int (f 0 21)) hx hb hts inX7 hown hT hP 0 rfl rfl 27 (Nat.le_of_ble_eq_true rfl) lk131 (fun _ h => h) rfl dX7_isAsSeen_68 ?_
          refine lv_icmp_ge (tgt := 147) hx hb dX7_isAsSeen_71 (by decide) (fun hc => ?_) (fun hc => ?_)
          · have hf := if_t hf hc
            have hK9 := K_of hf hK
            have hK9 := hX65 _ hK9
            exact hK9 _ _ _ hP hD hS (lv_sub hl [0, 1, 2, 3, 4] rfl)
          · have hf := if_f hf hc
            refine lv_iload_n hx hb dX7_isAsSeen_74 rfl (lv_at hl 3 rfl) ?_
            refine lv_if_eq (tgt := 139) hx hb dX7_isAsSeen_75 (by decide) (fun hc => ?_) (fun hc => ?_)
            · have hf := if_t hf hc
              refine lv_iconst (v := (nI 0)) hx hb dX7_isAsSeen_139 (ic_0) ?_
              refine lv_istore_n (lv' := [(3, .int (nI 0)), (0, .ref (ad 0)), (1, .int x1), (2, .int x2), (4, .int x4), (5, .int x5)]) hx hb dX7_isAsSeen_140 rfl hl (by decide) rfl (fun ls hl => ?_)
              refine lv_iinc (v := (x5 + nI 1)) (lv' := [(5, .int (x5 + nI 1)), (3, .int (nI 0)), (0, .ref (ad 0)), (1, .int x1), (2, .int x2), (4, .int x4)]) hx hb dX7_isAsSeen_141 hl (k := 5) rfl (ii_x 1 _) (by decide) rfl (fun ls hl => ?_)
              refine lv_goto (tgt := 65) hx hb dX7_isAsSeen_144 (by decide) ?_
              have hK9 := K_of hf hK
              have hK9 := hW65 _ hK9
              exact hK9 _ _ _ hP hD hS (lv_sub hl [2, 3, 4, 1, 5, 0] rfl)
            · have hf := if_f hf hc
              refine lv_aload_n hx hb dX7_isAsSeen_78 rfl (lv_at hl 0 rfl) ?_
              refine va_get (C := RX7) (T := TX7) (N := 34) (ci := 7) (v := .ref (ad 6)) hx hb hts inX7 hown hT hP 0 rfl rfl 26 (Nat.le_of_ble_eq_true rfl) lk25 (fun _ h => h) rfl dX7_isAsSeen_79 ?_
              refine lv_iconst (v := (nI 4)) hx hb dX7_isAsSeen_82 (ic_4) ?_
              refine lv_iload hx hb dX7_isAsSeen_83 (lv_at hl 5 rfl) ?_
              refine lv_imul hx hb dX7_isAsSeen_85 ?_
              refine lv_iconst (v := (nI 2)) hx hb dX7_isAsSeen_86 (ic_2) ?_
              refine lv_iadd hx hb dX7_isAsSeen_87 ?_
              obtain ⟨hg, hf⟩ := gd_e hf
              refine va_iald (f := f 6) hx hb hT hP 6 0 rfl rfl (inb_e hg) dX7_isAsSeen_88 ?_
              refine lv_iload hx hb dX7_isAsSeen_89 (lv_at hl 4 rfl) ?_
              refine lv_icmp_ne (tgt := 135) hx hb dX7_isAsSeen_91 (by decide) (fun hc => ?_) (fun hc => ?_)
              · have hf := if_f hf hc
                refine lv_iconst (v := (nI 1)) hx hb dX7_isAsSeen_135 (ic_1) ?_
                refine lv_goto (tgt := 140) hx hb dX7_isAsSeen_136 (by decide) ?_
                refine lv_istore_n (lv' := [(3, .int (nI 1)), (0, .ref (ad 0)), (1, .int x1), (2, .int x2), (4, .int x4), (5, .int x5)]) hx hb dX7_isAsSeen_140 rfl hl (by decide) rfl (fun ls hl => ?_)
                refine lv_iinc (v := (x5 + nI 1)) (lv' := [(5, .int (x5 + nI 1)), (3, .int (nI 1)), (0, .ref (ad 0)), (1, .int x1), (2, .int x2), (4, .int x4)]) hx hb dX7_isAsSeen_141 hl (k := 5) rfl (ii_x 1 _) (by decide) rfl (fun ls hl => ?_)
                refine lv_goto (tgt := 65) hx hb dX7_isAsSeen_144 (by decide) ?_
                have hK9 := K_of hf hK
                have hK9 := hW65 _ hK9
                exact hK9 _ _ _ hP hD hS (lv_sub hl [2, 3, 4, 1, 5, 0] rfl)
              · have hf := if_t hf hc
                refine lv_aload_n hx hb dX7_isAsSeen_94 rfl (lv_at hl 0 rfl) ?_
                refine lv_sipush (v := (nI 240)) hx hb dX7_isAsSeen_95 (si_240) ?_
                refine lv_aload_n hx hb dX7_isAsSeen_98 rfl (lv_at hl 0 rfl) ?_
                refine va_get (C := RX7) (T := TX7) (N := 34) (ci := 7) (v := .ref (ad 6)) hx hb hts inX7 hown hT hP 0 rfl rfl 26 (Nat.le_of_ble_eq_true rfl) lk25 (fun _ h => h) rfl dX7_isAsSeen_99 ?_
                refine lv_iconst (v := (nI 4)) hx hb dX7_isAsSeen_102 (ic_4) ?_
                refine lv_iload hx hb dX7_isAsSeen_103 (lv_at hl 5 rfl) ?_
                refine lv_imul hx hb dX7_isAsSeen_105 ?_
                obtain ⟨hg, hf⟩ := gd_e hf
                refine va_iald (f := f 6) hx hb hT hP 6 0 rfl rfl (inb_e hg) dX7_isAsSeen_106 ?_
                refine lv_aload_n hx hb dX7_isAsSeen_107 rfl (lv_at hl 0 rfl) ?_
                refine va_get (C := RX7) (T := TX7) (N := 34) (ci := 7) (v := .ref (ad 6)) hx hb hts inX7 hown hT hP 0 rfl rfl 26 (Nat.le_of_ble_eq_true rfl) lk25 (fun _ h => h) rfl dX7_isAsSeen_108 ?_
                refine lv_iconst (v := (nI 4)) hx hb dX7_isAsSeen_111 (ic_4) ?_
                refine lv_iload hx hb dX7_isAsSeen_112 (lv_at hl 5 rfl) ?_
                refine lv_imul hx hb dX7_isAsSeen_114 ?_
                refine lv_iconst (v := (nI 1)) hx hb dX7_isAsSeen_115 (ic_1) ?_
                refine lv_iadd hx hb dX7_isAsSeen_116 ?_
                obtain ⟨hg, hf⟩ := gd_e hf
                refine va_iald (f := f 6) hx hb hT hP 6 0 rfl rfl (inb_e hg) dX7_isAsSeen_117 ?_
                obtain ⟨r118, hc118, hf⟩ := bd_e hf
                refine cl_i_same (Wd := (wX7 G ad f)) (W' := (wX7 G ad f)) (va_runV (As := [.int (nI 240), .int (f 6 ((nI 4) * x5).toNatClampNeg), .int (f 6 (((nI 4) * x5) + (nI 1)).toNatClampNeg)]) (rest := []) hC (c_X7_shareOn l G ad f (nI 240) (f 6 ((nI 4) * x5).toNatClampNeg) (f 6 (((nI 4) * x5) + (nI 1)).toNatClampNeg) r118 hc118 _) (cwV 3 hts gX7_isAsSeen_X7_shareOn rfl rfl rfl (by decide +kernel) ⟨Nat.le_of_ble_eq_true rfl, Nat.le_of_ble_eq_true rfl⟩) ⟨Pc0_blind, va_recv hT hP (q0 := 0) (ci := 7) rfl rfl, fun U hU hW => Pc0_at hE hP hD hU hW⟩ rfl rfl hl.1 rfl (lv_room (Nat.le_of_ble_eq_true rfl)) dX7_isAsSeen_118 ⟨Nat.zero_le _, Nat.zero_le _⟩) hS hA hD (fun H locs hP hD hS => ?_)
                refine lv_aload_n hx hb dX7_isAsSeen_121 rfl (lv_at hl 0 rfl) ?_
                refine va_get (C := RX7) (T := TX7) (N := 34) (ci := 7) (v := .ref (ad 6)) hx hb hts inX7 hown hT hP 0 rfl rfl 26 (Nat.le_of_ble_eq_true rfl) lk25 (fun _ h => h) rfl dX7_isAsSeen_122 ?_
                refine lv_iconst (v := (nI 4)) hx hb dX7_isAsSeen_125 (ic_4) ?_
                refine lv_iload hx hb dX7_isAsSeen_126 (lv_at hl 5 rfl) ?_
                refine lv_imul hx hb dX7_isAsSeen_128 ?_
                refine lv_iconst (v := (nI 3)) hx hb dX7_isAsSeen_129 (ic_3) ?_
                refine lv_iadd hx hb dX7_isAsSeen_130 ?_
                obtain ⟨hg, hf⟩ := gd_e hf
                refine va_iald (f := f 6) hx hb hT hP 6 0 rfl rfl (inb_e hg) dX7_isAsSeen_131 ?_
                refine lv_icmp_ne (tgt := 139) hx hb dX7_isAsSeen_132 (by decide) (fun hc => ?_) (fun hc => ?_)
                · have hf := if_f hf hc
                  refine lv_iconst (v := (nI 0)) hx hb dX7_isAsSeen_139 (ic_0) ?_
                  refine lv_istore_n (lv' := [(3, .int (nI 0)), (0, .ref (ad 0)), (1, .int x1), (2, .int x2), (4, .int x4), (5, .int x5)]) hx hb dX7_isAsSeen_140 rfl hl (by decide) rfl (fun ls hl => ?_)
                  refine lv_iinc (v := (x5 + nI 1)) (lv' := [(5, .int (x5 + nI 1)), (3, .int (nI 0)), (0, .ref (ad 0)), (1, .int x1), (2, .int x2), (4, .int x4)]) hx hb dX7_isAsSeen_141 hl (k := 5) rfl (ii_x 1 _) (by decide) rfl (fun ls hl => ?_)
                  refine lv_goto (tgt := 65) hx hb dX7_isAsSeen_144 (by decide) ?_
                  have hK9 := K_of hf hK
                  have hK9 := hW65 _ hK9
                  exact hK9 _ _ _ hP hD hS (lv_sub hl [2, 3, 4, 1, 5, 0] rfl)
                · have hf := if_t hf hc
                  refine lv_iconst (v := (nI 1)) hx hb dX7_isAsSeen_135 (ic_1) ?_
                  refine lv_goto (tgt := 140) hx hb dX7_isAsSeen_136 (by decide) ?_
                  refine lv_istore_n (lv' := [(3, .int (nI 1)), (0, .ref (ad 0)), (1, .int x1), (2, .int x2), (4, .int x4), (5, .int x5)]) hx hb dX7_isAsSeen_140 rfl hl (by decide) rfl (fun ls hl => ?_)
                  refine lv_iinc (v := (x5 + nI 1)) (lv' := [(5, .int (x5 + nI 1)), (3, .int (nI 1)), (0, .ref (ad 0)), (1, .int x1), (2, .int x2), (4, .int x4)]) hx hb dX7_isAsSeen_141 hl (k := 5) rfl (ii_x 1 _) (by decide) rfl (fun ls hl => ?_)
                  refine lv_goto (tgt := 65) hx hb dX7_isAsSeen_144 (by decide) ?_
                  have hK9 := K_of hf hK
                  have hK9 := hW65 _ hK9
                  exact hK9 _ _ _ hP hD hS (lv_sub hl [2, 3, 4, 1, 5, 0] rfl)
        · try dsimp only at hf
          show ∀ (H : Heap) (locs : List Loc) (ls : Array Slot), va_P G.1 vwCl (wX7 G ad f_23) H → va_D A (wX7 G ad f_23) → va_S A s.heap H locs → lv_has ls 6 [(0, .ref (ad 0)), (1, .int x1), (2, .int x2), (3, .int y3_65), (4, .int x4)] → W p l e ({ frames := 5, cells := 0, slots := 0, locals := 108 }) s m args below meth c H locs 0 0 Q (F0 m 147 ls [])
          intro H locs ls hP hD hS hl
          refine lv_aload_n hx hb dX7_isAsSeen_147 rfl (lv_at hl 0 rfl) ?_
          refine lv_sipush (v := (nI 240)) hx hb dX7_isAsSeen_148 (si_240) ?_
          refine lv_iconst (v := (nI 1)) hx hb dX7_isAsSeen_151 (ic_1) ?_
          obtain ⟨⟨r152, f_152⟩, hc152, hf⟩ := bd_e hf
          try dsimp only at hf
          refine cl_i_same (Wd := (wX7 G ad f_23)) (W' := (wX7 G ad f_152)) (va_runV (As := [.int (nI 240), .int (nI 1)]) (rest := []) hC (c_X7_weekOn l G ad f_23 (nI 240) (nI 1) r152 f_152 hc152 _) (cwV 2 hts gX7_isAsSeen_X7_weekOn rfl rfl rfl (by decide +kernel) ⟨Nat.le_of_ble_eq_true rfl, Nat.le_of_ble_eq_true rfl⟩) ⟨Pc0_blind, va_recv hT hP (q0 := 0) (ci := 7) rfl rfl, fun U hU hW => Pc0_at hE hP hD hU hW⟩ rfl rfl hl.1 rfl (lv_room (Nat.le_of_ble_eq_true rfl)) dX7_isAsSeen_152 ⟨Nat.zero_le _, Nat.zero_le _⟩) hS hA hD (fun H locs hP hD hS => ?_)
          refine lv_pop hx hb dX7_isAsSeen_155 rfl ?_
          refine lv_iinc (v := (x4 + nI 1)) (lv' := [(4, .int (x4 + nI 1)), (0, .ref (ad 0)), (1, .int x1), (2, .int x2), (3, .int y3_65)]) hx hb dX7_isAsSeen_156 hl (k := 4) rfl (ii_x 1 _) (by decide) rfl (fun ls hl => ?_)
          refine lv_goto (tgt := 13) hx hb dX7_isAsSeen_159 (by decide) ?_
          have hK9 := K_of hf hK
          have hK9 := hW13 _ hK9
          exact hK9 _ _ _ hP hD hS (lv_sub hl [1, 2, 3, 4, 0] rfl)
  · try dsimp only at hf
    show ∀ (H : Heap) (locs : List Loc) (ls : Array Slot), va_P G.1 vwCl (wX7 G ad f_13) H → va_D A (wX7 G ad f_13) → va_S A s.heap H locs → lv_has ls 6 [(3, .int y3_13)] → W p l e ({ frames := 5, cells := 0, slots := 0, locals := 108 }) s m args below meth c H locs 0 0 Q (F0 m 162 ls [])
    intro H locs ls hP hD hS hl
    refine lv_iload_n hx hb dX7_isAsSeen_162 rfl (lv_at hl 0 rfl) ?_
    obtain ⟨hg, hf⟩ := gd_e hf
    have hK9 := K0_of hf hK
    exact hRet y3_13 f_13 _ _ _ _ hK9 (zb_e hg) dX7_isAsSeen_163 hP hD hS
noncomputable def p_X7_kindsOf_B45 (f_ : Mem) (x1 : Int32) (x2 : Int32) (x4 : Int32) (s0 : Int32) (s1 : Int32) : Option ((Int32 × Int32 × Mem) ⊕ (Int32 × Mem)) :=
  some (Sum.inl ((s1 ||| s0), (x4 + nI 1), f_))
noncomputable def p_X7_kindsOf_L12 (x1 : Int32) (x2 : Int32) (z : Int32 × Int32 × Mem) : Option ((Int32 × Int32 × Mem) ⊕ (Int32 × Mem)) :=
  match z with
  | (x3, x4, f_) =>
    if (nI 4) ≤ x4 then
      (some (Sum.inr (x3, f_)))
    else
      (gd (inb x1 360) <|
       bnd (upd (f_ 1) x1.toNatClampNeg x4) <| fun g25 =>
       Option.bind (p_X7_isAsSeen (mrow 1 (g25) f_) x1 x4) <| fun (r31, f_31) =>
       if r31 = 0 then
         (p_X7_kindsOf_B45 f_31 x1 x2 x4 (nI 0) x3)
       else
         (p_X7_kindsOf_B45 f_31 x1 x2 x4 ((nI 1) <<< (x4 &&& 31)) x3))
noncomputable def p_X7_kindsOf (f : Mem) (x1 : Int32) : Option (Int32 × Mem) :=
  gd (inb x1 360) <|
  Option.bind (lp (p_X7_kindsOf_L12 x1 (f 1 x1.toNatClampNeg)) ((nI 0), (nI 0), f)) <| fun (y3_12, f_12) =>
  gd (inb x1 360) <|
  bnd (upd (f_12 1) x1.toNatClampNeg (f 1 x1.toNatClampNeg)) <| fun g59 =>
  some (y3_12, (mrow 1 (g59) f_12))
set_option maxHeartbeats 4000000 in
set_option maxRecDepth 100000 in
theorem c_X7_kindsOf (l : Launch) (G : Gt) (ad : Nat → Nat) (f : Mem) (x1 : Int32) (r : Int32) (fz : Mem) (hf : p_X7_kindsOf f x1 = some (r, fz)) (sz : Nat) : Met l yX7_kindsOf wsX7_kindsOf ({ frames := 6, cells := 0, slots := 0, locals := 133 }) (Pc0 G sz [.ref (ad 0), .int x1] (wX7 G ad f)) (Qi0 G (va_A (wX7 G ad f) sz) r (wX7 G ad fz)) 0 0 (va_A (wX7 G ad f) sz) := by
  refine metP (Qf := fun A => Qi0 G A r (wX7 G ad fz)) cX7_kindsOf 5 (some .int) (by decide) rfl (Nat.le_of_ble_eq_true rfl) ?_
  intro p e s m below meth c A ls hC hr hlocks hin hE hA hsz hP hD hS hl
  generalize hargs : ([.ref (ad 0), .int x1] : List Value).toArray = args at hC ⊢
  obtain ⟨hx, hb, hml, hown, hts⟩ := id hC
  have hT : va_K G.1 vwCl (tyL G) s := hE.1
  have hRet : ∀ (r9 : Int32) (f9 : Mem) (H : Heap) (locs : List Loc) (ls : Array Slot) (pc : Nat) (hK9 : (r9, f9) = (r, fz)) (hdg : decode cX7_kindsOf pc = .ok (.ireturn, 1)), va_P G.1 vwCl (wX7 G ad f9) H → va_D A (wX7 G ad f9) → va_S A s.heap H locs → W p l e ({ frames := 6, cells := 0, slots := 0, locals := 133 }) s m args below meth c H locs 0 0 (MQ below (Qi0 G A r (wX7 G ad fz)) args s 0 0 A) (F0 m pc ls [.int r9]) := by
    intro r9 f9 H locs ls pc hK9 hdg hP hD hS
    cases hK9
    exact W.iret hx hb hr (fun t ht hW => ⟨⟨r, (), rfl, rfl, by rw [ht]; exact hP, hD⟩, hS.F ht⟩) hS.2.2 hdg hlocks
  generalize MQ below (Qi0 G A r (wX7 G ad fz)) args s 0 0 A = Q at hRet ⊢
  have lk7 := hts (.fieldLink RX7 7 "FeatherSharesModel" "state" "[I") (by decide +kernel)
  have inX7 : ∀ w ∈ u_ws RX7 TX7 34, w ∈ wsX7_kindsOf := by decide +kernel
  have hl : lv_has ls 5 [(0, .ref (ad 0)), (1, .int x1)] := hl
  have hK0 : (r, fz) = (r, fz) := rfl
  obtain ⟨res, hres, hK⟩ : ∃ res, p_X7_kindsOf f x1 = some res ∧ res = (r, fz) := ⟨_, hf, rfl⟩
  clear hf
  have hf := hres
  clear hres
  unfold p_X7_kindsOf at hf
  refine lv_aload_n hx hb dX7_kindsOf_0 rfl (lv_at hl 0 rfl) ?_
  refine va_get (C := RX7) (T := TX7) (N := 34) (ci := 7) (v := .ref (ad 1)) hx hb hts inX7 hown hT hP 0 rfl rfl 0 (Nat.le_of_ble_eq_true rfl) lk7 (fun _ h => h) rfl dX7_kindsOf_1 ?_
  refine lv_iload_n hx hb dX7_kindsOf_4 rfl (lv_at hl 1 rfl) ?_
  obtain ⟨hg, hf⟩ := gd_e hf
  refine va_iald (f := f 1) hx hb hT hP 1 0 rfl rfl (inb_e hg) dX7_kindsOf_5 ?_
  refine lv_istore_n (lv' := [(2, .int (f 1 x1.toNatClampNeg)), (0, .ref (ad 0)), (1, .int x1)]) hx hb dX7_kindsOf_6 rfl hl (by decide) rfl (fun ls hl => ?_)
  refine lv_iconst (v := (nI 0)) hx hb dX7_kindsOf_7 (ic_0) ?_
  refine lv_istore_n (lv' := [(3, .int (nI 0)), (2, .int (f 1 x1.toNatClampNeg)), (0, .ref (ad 0)), (1, .int x1)]) hx hb dX7_kindsOf_8 rfl hl (by decide) rfl (fun ls hl => ?_)
  refine lv_iconst (v := (nI 0)) hx hb dX7_kindsOf_9 (ic_0) ?_
  refine lv_istore (lv' := [(4, .int (nI 0)), (3, .int (nI 0)), (2, .int (f 1 x1.toNatClampNeg)), (0, .ref (ad 0)), (1, .int x1)]) hx hb dX7_kindsOf_10 hl (by decide) rfl (fun ls hl => ?_)
  obtain ⟨⟨y3_12, f_12⟩, hlp, hf⟩ := bd_e hf
  refine lp_W1 (p_X7_kindsOf_L12 x1 (f 1 x1.toNatClampNeg)) (fun z => match z with | (x3, x4, f_) => ∀ (H : Heap) (locs : List Loc) (ls : Array Slot), va_P G.1 vwCl (wX7 G ad f_) H → va_D A (wX7 G ad f_) → va_S A s.heap H locs → lv_has ls 5 [(0, .ref (ad 0)), (1, .int x1), (2, .int (f 1 x1.toNatClampNeg)), (3, .int x3), (4, .int x4)] → W p l e ({ frames := 6, cells := 0, slots := 0, locals := 133 }) s m args below meth c H locs 0 0 Q (F0 m 12 ls [])) (fun z => match z with | (y3_12, f_12) => ∀ (H : Heap) (locs : List Loc) (ls : Array Slot), va_P G.1 vwCl (wX7 G ad f_12) H → va_D A (wX7 G ad f_12) → va_S A s.heap H locs → lv_has ls 5 [(0, .ref (ad 0)), (1, .int x1), (2, .int (f 1 x1.toNatClampNeg)), (3, .int y3_12)] → W p l e ({ frames := 6, cells := 0, slots := 0, locals := 133 }) s m args below meth c H locs 0 0 Q (F0 m 53 ls [])) ?_ hlp ?_ _ _ _ hP hD hS (lv_sub hl [3, 4, 2, 1, 0] rfl)
  · clear hlp hf hK hP hD hS hl
    generalize (f 1 x1.toNatClampNeg) = x2
    intro K12 hW12 hX12 
    have hB45 : ∀ (f_ : Mem) (x4 : Int32) (s0 : Int32) (s1 : Int32) (res : (Int32 × Int32 × Mem) ⊕ (Int32 × Mem)) (hf : p_X7_kindsOf_B45 f_ x1 x2 x4 s0 s1 = some res) (hK : K12 res), ∀ (H : Heap) (locs : List Loc) (ls : Array Slot), va_P G.1 vwCl (wX7 G ad f_) H → va_D A (wX7 G ad f_) → va_S A s.heap H locs → lv_has ls 5 [(0, .ref (ad 0)), (1, .int x1), (2, .int x2), (4, .int x4)] → W p l e ({ frames := 6, cells := 0, slots := 0, locals := 133 }) s m args below meth c H locs 0 0 Q (F0 m 45 ls [.int s0, .int s1]) := by
      intro f_ x4 s0 s1 res hf hK H locs ls hP hD hS hl
      unfold p_X7_kindsOf_B45 at hf
      refine lv_ior hx hb dX7_kindsOf_45 ?_
      refine lv_istore_n (lv' := [(3, .int (s1 ||| s0)), (0, .ref (ad 0)), (1, .int x1), (2, .int x2), (4, .int x4)]) hx hb dX7_kindsOf_46 rfl hl (by decide) rfl (fun ls hl => ?_)
      refine lv_iinc (v := (x4 + nI 1)) (lv' := [(4, .int (x4 + nI 1)), (3, .int (s1 ||| s0)), (0, .ref (ad 0)), (1, .int x1), (2, .int x2)]) hx hb dX7_kindsOf_47 hl (k := 4) rfl (ii_x 1 _) (by decide) rfl (fun ls hl => ?_)
      refine lv_goto (tgt := 12) hx hb dX7_kindsOf_50 (by decide) ?_
      have hK9 := K_of hf hK
      have hK9 := hW12 _ hK9
      exact hK9 _ _ _ hP hD hS (lv_sub hl [2, 3, 4, 1, 0] rfl)
    rintro ⟨x3, x4, f_⟩ res hf hK H locs ls hP hD hS hl
    unfold p_X7_kindsOf_L12 at hf
    dsimp only at hf
    refine lv_iload hx hb dX7_kindsOf_12 (lv_at hl 4 rfl) ?_
    refine lv_iconst (v := (nI 4)) hx hb dX7_kindsOf_14 (ic_4) ?_
    refine lv_icmp_ge (tgt := 53) hx hb dX7_kindsOf_15 (by decide) (fun hc => ?_) (fun hc => ?_)
    · have hf := if_t hf hc
      have hK9 := K_of hf hK
      have hK9 := hX12 _ hK9
      exact hK9 _ _ _ hP hD hS (lv_sub hl [0, 1, 2, 3] rfl)
    · have hf := if_f hf hc
      refine lv_aload_n hx hb dX7_kindsOf_18 rfl (lv_at hl 0 rfl) ?_
      refine va_get (C := RX7) (T := TX7) (N := 34) (ci := 7) (v := .ref (ad 1)) hx hb hts inX7 hown hT hP 0 rfl rfl 0 (Nat.le_of_ble_eq_true rfl) lk7 (fun _ h => h) rfl dX7_kindsOf_19 ?_
      refine lv_iload_n hx hb dX7_kindsOf_22 rfl (lv_at hl 1 rfl) ?_
      refine lv_iload hx hb dX7_kindsOf_23 (lv_at hl 4 rfl) ?_
      obtain ⟨hg, hf⟩ := gd_e hf
      obtain ⟨g25, eg25, hf⟩ := bnd_e hf
      refine va_iast (f := f_ 1) hx hb hT hP hD hS 1 0 rfl rfl (inb_e hg) dX7_kindsOf_25 (fun H locs hP hD hS => ?_)
      rw [← eg25] at hP hD
      have hP : va_P G.1 vwCl (wX7 G ad (mrow 1 (g25) f_)) H := hP
      have hD : va_D A (wX7 G ad (mrow 1 (g25) f_)) := hD
      refine lv_iload_n hx hb dX7_kindsOf_26 rfl (lv_at hl 3 rfl) ?_
      refine lv_aload_n hx hb dX7_kindsOf_27 rfl (lv_at hl 0 rfl) ?_
      refine lv_iload_n hx hb dX7_kindsOf_28 rfl (lv_at hl 1 rfl) ?_
      refine lv_iload hx hb dX7_kindsOf_29 (lv_at hl 4 rfl) ?_
      obtain ⟨⟨r31, f_31⟩, hc31, hf⟩ := bd_e hf
      try dsimp only at hf
      refine cl_z_same (Wd := (wX7 G ad (mrow 1 (g25) f_))) (W' := (wX7 G ad f_31)) (va_runV (As := [.int x1, .int x4]) (rest := [.int x3]) hC (c_X7_isAsSeen l G ad (mrow 1 (g25) f_) x1 x4 r31 f_31 hc31 _) (cwV 2 hts gX7_kindsOf_X7_isAsSeen rfl rfl rfl (by decide +kernel) ⟨Nat.le_of_ble_eq_true rfl, Nat.le_of_ble_eq_true rfl⟩) ⟨Pc0_blind, va_recv hT hP (q0 := 0) (ci := 7) rfl rfl, fun U hU hW => Pc0_at hE hP hD hU hW⟩ rfl rfl hl.1 rfl (lv_room (Nat.le_of_ble_eq_true rfl)) dX7_kindsOf_31 ⟨Nat.zero_le _, Nat.zero_le _⟩) hS hA hD (fun H locs hn31 hP hD hS => ?_)
      refine lv_if_eq (tgt := 44) hx hb dX7_kindsOf_34 (by decide) (fun hc => ?_) (fun hc => ?_)
      · have hf := if_t hf hc
        refine lv_iconst (v := (nI 0)) hx hb dX7_kindsOf_44 (ic_0) ?_
        exact hB45 f_31 x4 (nI 0) x3 _ hf hK _ _ _ hP hD hS (lv_sub hl [0, 1, 2, 4] rfl)
      · have hf := if_f hf hc
        refine lv_iconst (v := (nI 1)) hx hb dX7_kindsOf_37 (ic_1) ?_
        refine lv_iload hx hb dX7_kindsOf_38 (lv_at hl 4 rfl) ?_
        refine lv_ishl hx hb dX7_kindsOf_40 ?_
        refine lv_goto (tgt := 45) hx hb dX7_kindsOf_41 (by decide) ?_
        exact hB45 f_31 x4 ((nI 1) <<< (x4 &&& 31)) x3 _ hf hK _ _ _ hP hD hS (lv_sub hl [0, 1, 2, 4] rfl)
  · try dsimp only at hf
    show ∀ (H : Heap) (locs : List Loc) (ls : Array Slot), va_P G.1 vwCl (wX7 G ad f_12) H → va_D A (wX7 G ad f_12) → va_S A s.heap H locs → lv_has ls 5 [(0, .ref (ad 0)), (1, .int x1), (2, .int (f 1 x1.toNatClampNeg)), (3, .int y3_12)] → W p l e ({ frames := 6, cells := 0, slots := 0, locals := 133 }) s m args below meth c H locs 0 0 Q (F0 m 53 ls [])
    intro H locs ls hP hD hS hl
    refine lv_aload_n hx hb dX7_kindsOf_53 rfl (lv_at hl 0 rfl) ?_
    refine va_get (C := RX7) (T := TX7) (N := 34) (ci := 7) (v := .ref (ad 1)) hx hb hts inX7 hown hT hP 0 rfl rfl 0 (Nat.le_of_ble_eq_true rfl) lk7 (fun _ h => h) rfl dX7_kindsOf_54 ?_
    refine lv_iload_n hx hb dX7_kindsOf_57 rfl (lv_at hl 1 rfl) ?_
    refine lv_iload_n hx hb dX7_kindsOf_58 rfl (lv_at hl 2 rfl) ?_
    obtain ⟨hg, hf⟩ := gd_e hf
    obtain ⟨g59, eg59, hf⟩ := bnd_e hf
    refine va_iast (f := f_12 1) hx hb hT hP hD hS 1 0 rfl rfl (inb_e hg) dX7_kindsOf_59 (fun H locs hP hD hS => ?_)
    rw [← eg59] at hP hD
    have hP : va_P G.1 vwCl (wX7 G ad (mrow 1 (g59) f_12)) H := hP
    have hD : va_D A (wX7 G ad (mrow 1 (g59) f_12)) := hD
    refine lv_iload_n hx hb dX7_kindsOf_60 rfl (lv_at hl 3 rfl) ?_
    have hK9 := K0_of hf hK
    exact hRet y3_12 (mrow 1 (g59) f_12) _ _ _ _ hK9 dX7_kindsOf_61 hP hD hS
noncomputable def p_X7_kinds (f : Mem) (x1 : Int32) : Option (Int32 × Mem) :=
  Option.bind (p_X7_isGoose f x1) <| fun r2 =>
  if r2 = 0 then
    (some ((-1 : Int32), f))
  else
    (Option.bind (p_X7_kindsOf f x1) <| fun (r10, f_10) =>
     some (r10, f_10))
set_option maxHeartbeats 4000000 in
set_option maxRecDepth 100000 in
theorem c_X7_kinds (l : Launch) (G : Gt) (ad : Nat → Nat) (f : Mem) (x1 : Int32) (r : Int32) (fz : Mem) (hf : p_X7_kinds f x1 = some (r, fz)) (sz : Nat) : Met l yX7_kinds wsX7_kinds ({ frames := 7, cells := 0, slots := 0, locals := 157 }) (Pc0 G sz [.ref (ad 0), .int x1] (wX7 G ad f)) (Qi0 G (va_A (wX7 G ad f) sz) r (wX7 G ad fz)) 0 0 (va_A (wX7 G ad f) sz) := by
  refine metP (Qf := fun A => Qi0 G A r (wX7 G ad fz)) cX7_kinds 2 (some .int) (by decide) rfl (Nat.le_of_ble_eq_true rfl) ?_
  intro p e s m below meth c A ls hC hr hlocks hin hE hA hsz hP hD hS hl
  generalize hargs : ([.ref (ad 0), .int x1] : List Value).toArray = args at hC ⊢
  obtain ⟨hx, hb, hml, hown, hts⟩ := id hC
  have hT : va_K G.1 vwCl (tyL G) s := hE.1
  have hRet : ∀ (r9 : Int32) (f9 : Mem) (H : Heap) (locs : List Loc) (ls : Array Slot) (pc : Nat) (hK9 : (r9, f9) = (r, fz)) (hdg : decode cX7_kinds pc = .ok (.ireturn, 1)), va_P G.1 vwCl (wX7 G ad f9) H → va_D A (wX7 G ad f9) → va_S A s.heap H locs → W p l e ({ frames := 7, cells := 0, slots := 0, locals := 157 }) s m args below meth c H locs 0 0 (MQ below (Qi0 G A r (wX7 G ad fz)) args s 0 0 A) (F0 m pc ls [.int r9]) := by
    intro r9 f9 H locs ls pc hK9 hdg hP hD hS
    cases hK9
    exact W.iret hx hb hr (fun t ht hW => ⟨⟨r, (), rfl, rfl, by rw [ht]; exact hP, hD⟩, hS.F ht⟩) hS.2.2 hdg hlocks
  generalize MQ below (Qi0 G A r (wX7 G ad fz)) args s 0 0 A = Q at hRet ⊢
  have hl : lv_has ls 2 [(0, .ref (ad 0)), (1, .int x1)] := hl
  have hK0 : (r, fz) = (r, fz) := rfl
  obtain ⟨res, hres, hK⟩ : ∃ res, p_X7_kinds f x1 = some res ∧ res = (r, fz) := ⟨_, hf, rfl⟩
  clear hf
  have hf := hres
  clear hres
  unfold p_X7_kinds at hf
  refine lv_aload_n hx hb dX7_kinds_0 rfl (lv_at hl 0 rfl) ?_
  refine lv_iload_n hx hb dX7_kinds_1 rfl (lv_at hl 1 rfl) ?_
  obtain ⟨r2, hc2, hf⟩ := bd_e hf
  refine cl_z_same (Wd := (wX7 G ad f)) (W' := (wX7 G ad f)) (va_runV (As := [.int x1]) (rest := []) hC (c_X7_isGoose l G ad f x1 r2 hc2 _) (cwV 1 hts gX7_kinds_X7_isGoose rfl rfl rfl (by decide +kernel) ⟨Nat.le_of_ble_eq_true rfl, Nat.le_of_ble_eq_true rfl⟩) ⟨Pc0_blind, va_recv hT hP (q0 := 0) (ci := 7) rfl rfl, fun U hU hW => Pc0_at hE hP hD hU hW⟩ rfl rfl hl.1 rfl (lv_room (Nat.le_of_ble_eq_true rfl)) dX7_kinds_2 ⟨Nat.zero_le _, Nat.zero_le _⟩) hS hA hD (fun H locs hn2 hP hD hS => ?_)
  refine lv_if_eq (tgt := 16) hx hb dX7_kinds_5 (by decide) (fun hc => ?_) (fun hc => ?_)
  · have hf := if_t hf hc
    refine lv_iconst (v := (-1 : Int32)) hx hb dX7_kinds_16 (ic_m1) ?_
    have hK9 := K0_of hf hK
    exact hRet (-1 : Int32) f _ _ _ _ hK9 dX7_kinds_17 hP hD hS
  · have hf := if_f hf hc
    refine lv_aload_n hx hb dX7_kinds_8 rfl (lv_at hl 0 rfl) ?_
    refine lv_iload_n hx hb dX7_kinds_9 rfl (lv_at hl 1 rfl) ?_
    obtain ⟨⟨r10, f_10⟩, hc10, hf⟩ := bd_e hf
    try dsimp only at hf
    refine cl_i_same (Wd := (wX7 G ad f)) (W' := (wX7 G ad f_10)) (va_runV (As := [.int x1]) (rest := []) hC (c_X7_kindsOf l G ad f x1 r10 f_10 hc10 _) (cwV 1 hts gX7_kinds_X7_kindsOf rfl rfl rfl (by decide +kernel) ⟨Nat.le_of_ble_eq_true rfl, Nat.le_of_ble_eq_true rfl⟩) ⟨Pc0_blind, va_recv hT hP (q0 := 0) (ci := 7) rfl rfl, fun U hU hW => Pc0_at hE hP hD hU hW⟩ rfl rfl hl.1 rfl (lv_room (Nat.le_of_ble_eq_true rfl)) dX7_kinds_10 ⟨Nat.zero_le _, Nat.zero_le _⟩) hS hA hD (fun H locs hP hD hS => ?_)
    refine lv_goto (tgt := 17) hx hb dX7_kinds_13 (by decide) ?_
    have hK9 := K0_of hf hK
    exact hRet r10 f_10 _ _ _ _ hK9 dX7_kinds_17 hP hD hS
noncomputable def p_X7_skins_B58 (f_ : Mem) (x1 : Int32) (x2 : Int32) (x4 : Int32) (s0 : Int32) (s1 : Int32) : Option ((Int32 × Int32 × Mem) ⊕ (Int32 × Mem)) :=
  some (Sum.inl ((s1 ||| s0), (x4 + nI 1), f_))
noncomputable def p_X7_skins_L24 (x1 : Int32) (x2 : Int32) (z : Int32 × Int32 × Mem) : Option ((Int32 × Int32 × Mem) ⊕ (Int32 × Mem)) :=
  match z with
  | (x3, x4, f_) =>
    if (nI 5) ≤ x4 then
      (some (Sum.inr (x3, f_)))
    else
      (gd (inb ((nI 3) + x1) 360) <|
       bnd (upd (f_ 1) ((nI 3) + x1).toNatClampNeg x4) <| fun g39 =>
       Option.bind (p_X7_isAsSeen (mrow 1 (g39) f_) x1 (nI 0)) <| fun (r44, f_44) =>
       if r44 = 0 then
         (p_X7_skins_B58 f_44 x1 x2 x4 (nI 0) x3)
       else
         (p_X7_skins_B58 f_44 x1 x2 x4 ((nI 1) <<< (x4 &&& 31)) x3))
noncomputable def p_X7_skins (f : Mem) (x1 : Int32) : Option (Int32 × Mem) :=
  Option.bind (p_X7_isGoose f x1) <| fun r2 =>
  if r2 = 0 then
    (some ((-1 : Int32), f))
  else
    (gd (inb ((nI 3) + x1) 360) <|
     Option.bind (lp (p_X7_skins_L24 x1 (f 1 ((nI 3) + x1).toNatClampNeg)) ((nI 0), (nI 0), f)) <| fun (y3_24, f_24) =>
     gd (inb ((nI 3) + x1) 360) <|
     bnd (upd (f_24 1) ((nI 3) + x1).toNatClampNeg (f 1 ((nI 3) + x1).toNatClampNeg)) <| fun g74 =>
     some (y3_24, (mrow 1 (g74) f_24)))
set_option maxHeartbeats 4000000 in
set_option maxRecDepth 100000 in
theorem c_X7_skins (l : Launch) (G : Gt) (ad : Nat → Nat) (f : Mem) (x1 : Int32) (r : Int32) (fz : Mem) (hf : p_X7_skins f x1 = some (r, fz)) (sz : Nat) : Met l yX7_skins wsX7_skins ({ frames := 6, cells := 0, slots := 0, locals := 133 }) (Pc0 G sz [.ref (ad 0), .int x1] (wX7 G ad f)) (Qi0 G (va_A (wX7 G ad f) sz) r (wX7 G ad fz)) 0 0 (va_A (wX7 G ad f) sz) := by
  refine metP (Qf := fun A => Qi0 G A r (wX7 G ad fz)) cX7_skins 5 (some .int) (by decide) rfl (Nat.le_of_ble_eq_true rfl) ?_
  intro p e s m below meth c A ls hC hr hlocks hin hE hA hsz hP hD hS hl
  generalize hargs : ([.ref (ad 0), .int x1] : List Value).toArray = args at hC ⊢
  obtain ⟨hx, hb, hml, hown, hts⟩ := id hC
  have hT : va_K G.1 vwCl (tyL G) s := hE.1
  have hRet : ∀ (r9 : Int32) (f9 : Mem) (H : Heap) (locs : List Loc) (ls : Array Slot) (pc : Nat) (hK9 : (r9, f9) = (r, fz)) (hdg : decode cX7_skins pc = .ok (.ireturn, 1)), va_P G.1 vwCl (wX7 G ad f9) H → va_D A (wX7 G ad f9) → va_S A s.heap H locs → W p l e ({ frames := 6, cells := 0, slots := 0, locals := 133 }) s m args below meth c H locs 0 0 (MQ below (Qi0 G A r (wX7 G ad fz)) args s 0 0 A) (F0 m pc ls [.int r9]) := by
    intro r9 f9 H locs ls pc hK9 hdg hP hD hS
    cases hK9
    exact W.iret hx hb hr (fun t ht hW => ⟨⟨r, (), rfl, rfl, by rw [ht]; exact hP, hD⟩, hS.F ht⟩) hS.2.2 hdg hlocks
  generalize MQ below (Qi0 G A r (wX7 G ad fz)) args s 0 0 A = Q at hRet ⊢
  have lk7 := hts (.fieldLink RX7 7 "FeatherSharesModel" "state" "[I") (by decide +kernel)
  have inX7 : ∀ w ∈ u_ws RX7 TX7 34, w ∈ wsX7_skins := by decide +kernel
  have hl : lv_has ls 5 [(0, .ref (ad 0)), (1, .int x1)] := hl
  have hK0 : (r, fz) = (r, fz) := rfl
  obtain ⟨res, hres, hK⟩ : ∃ res, p_X7_skins f x1 = some res ∧ res = (r, fz) := ⟨_, hf, rfl⟩
  clear hf
  have hf := hres
  clear hres
  unfold p_X7_skins at hf
  refine lv_aload_n hx hb dX7_skins_0 rfl (lv_at hl 0 rfl) ?_
  refine lv_iload_n hx hb dX7_skins_1 rfl (lv_at hl 1 rfl) ?_
  obtain ⟨r2, hc2, hf⟩ := bd_e hf
  refine cl_z_same (Wd := (wX7 G ad f)) (W' := (wX7 G ad f)) (va_runV (As := [.int x1]) (rest := []) hC (c_X7_isGoose l G ad f x1 r2 hc2 _) (cwV 1 hts gX7_skins_X7_isGoose rfl rfl rfl (by decide +kernel) ⟨Nat.le_of_ble_eq_true rfl, Nat.le_of_ble_eq_true rfl⟩) ⟨Pc0_blind, va_recv hT hP (q0 := 0) (ci := 7) rfl rfl, fun U hU hW => Pc0_at hE hP hD hU hW⟩ rfl rfl hl.1 rfl (lv_room (Nat.le_of_ble_eq_true rfl)) dX7_skins_2 ⟨Nat.zero_le _, Nat.zero_le _⟩) hS hA hD (fun H locs hn2 hP hD hS => ?_)
  refine lv_if_ne (tgt := 10) hx hb dX7_skins_5 (by decide) (fun hc => ?_) (fun hc => ?_)
  · have hf := if_f hf hc
    refine lv_aload_n hx hb dX7_skins_10 rfl (lv_at hl 0 rfl) ?_
    refine va_get (C := RX7) (T := TX7) (N := 34) (ci := 7) (v := .ref (ad 1)) hx hb hts inX7 hown hT hP 0 rfl rfl 0 (Nat.le_of_ble_eq_true rfl) lk7 (fun _ h => h) rfl dX7_skins_11 ?_
    refine lv_iconst (v := (nI 3)) hx hb dX7_skins_14 (ic_3) ?_
    refine lv_iload_n hx hb dX7_skins_15 rfl (lv_at hl 1 rfl) ?_
    refine lv_iadd hx hb dX7_skins_16 ?_
    obtain ⟨hg, hf⟩ := gd_e hf
    refine va_iald (f := f 1) hx hb hT hP 1 0 rfl rfl (inb_e hg) dX7_skins_17 ?_
    refine lv_istore_n (lv' := [(2, .int (f 1 ((nI 3) + x1).toNatClampNeg)), (0, .ref (ad 0)), (1, .int x1)]) hx hb dX7_skins_18 rfl hl (by decide) rfl (fun ls hl => ?_)
    refine lv_iconst (v := (nI 0)) hx hb dX7_skins_19 (ic_0) ?_
    refine lv_istore_n (lv' := [(3, .int (nI 0)), (2, .int (f 1 ((nI 3) + x1).toNatClampNeg)), (0, .ref (ad 0)), (1, .int x1)]) hx hb dX7_skins_20 rfl hl (by decide) rfl (fun ls hl => ?_)
    refine lv_iconst (v := (nI 0)) hx hb dX7_skins_21 (ic_0) ?_
    refine lv_istore (lv' := [(4, .int (nI 0)), (3, .int (nI 0)), (2, .int (f 1 ((nI 3) + x1).toNatClampNeg)), (0, .ref (ad 0)), (1, .int x1)]) hx hb dX7_skins_22 hl (by decide) rfl (fun ls hl => ?_)
    obtain ⟨⟨y3_24, f_24⟩, hlp, hf⟩ := bd_e hf
    refine lp_W1 (p_X7_skins_L24 x1 (f 1 ((nI 3) + x1).toNatClampNeg)) (fun z => match z with | (x3, x4, f_) => ∀ (H : Heap) (locs : List Loc) (ls : Array Slot), va_P G.1 vwCl (wX7 G ad f_) H → va_D A (wX7 G ad f_) → va_S A s.heap H locs → lv_has ls 5 [(0, .ref (ad 0)), (1, .int x1), (2, .int (f 1 ((nI 3) + x1).toNatClampNeg)), (3, .int x3), (4, .int x4)] → W p l e ({ frames := 6, cells := 0, slots := 0, locals := 133 }) s m args below meth c H locs 0 0 Q (F0 m 24 ls [])) (fun z => match z with | (y3_24, f_24) => ∀ (H : Heap) (locs : List Loc) (ls : Array Slot), va_P G.1 vwCl (wX7 G ad f_24) H → va_D A (wX7 G ad f_24) → va_S A s.heap H locs → lv_has ls 5 [(0, .ref (ad 0)), (1, .int x1), (2, .int (f 1 ((nI 3) + x1).toNatClampNeg)), (3, .int y3_24)] → W p l e ({ frames := 6, cells := 0, slots := 0, locals := 133 }) s m args below meth c H locs 0 0 Q (F0 m 66 ls [])) ?_ hlp ?_ _ _ _ hP hD hS (lv_sub hl [3, 4, 2, 1, 0] rfl)
    · clear hlp hf hK hP hD hS hl
      generalize (f 1 ((nI 3) + x1).toNatClampNeg) = x2
      intro K24 hW24 hX24 
      have hB58 : ∀ (f_ : Mem) (x4 : Int32) (s0 : Int32) (s1 : Int32) (res : (Int32 × Int32 × Mem) ⊕ (Int32 × Mem)) (hf : p_X7_skins_B58 f_ x1 x2 x4 s0 s1 = some res) (hK : K24 res), ∀ (H : Heap) (locs : List Loc) (ls : Array Slot), va_P G.1 vwCl (wX7 G ad f_) H → va_D A (wX7 G ad f_) → va_S A s.heap H locs → lv_has ls 5 [(0, .ref (ad 0)), (1, .int x1), (2, .int x2), (4, .int x4)] → W p l e ({ frames := 6, cells := 0, slots := 0, locals := 133 }) s m args below meth c H locs 0 0 Q (F0 m 58 ls [.int s0, .int s1]) := by
        intro f_ x4 s0 s1 res hf hK H locs ls hP hD hS hl
        unfold p_X7_skins_B58 at hf
        refine lv_ior hx hb dX7_skins_58 ?_
        refine lv_istore_n (lv' := [(3, .int (s1 ||| s0)), (0, .ref (ad 0)), (1, .int x1), (2, .int x2), (4, .int x4)]) hx hb dX7_skins_59 rfl hl (by decide) rfl (fun ls hl => ?_)
        refine lv_iinc (v := (x4 + nI 1)) (lv' := [(4, .int (x4 + nI 1)), (3, .int (s1 ||| s0)), (0, .ref (ad 0)), (1, .int x1), (2, .int x2)]) hx hb dX7_skins_60 hl (k := 4) rfl (ii_x 1 _) (by decide) rfl (fun ls hl => ?_)
        refine lv_goto (tgt := 24) hx hb dX7_skins_63 (by decide) ?_
        have hK9 := K_of hf hK
        have hK9 := hW24 _ hK9
        exact hK9 _ _ _ hP hD hS (lv_sub hl [2, 3, 4, 1, 0] rfl)
      rintro ⟨x3, x4, f_⟩ res hf hK H locs ls hP hD hS hl
      unfold p_X7_skins_L24 at hf
      dsimp only at hf
      refine lv_iload hx hb dX7_skins_24 (lv_at hl 4 rfl) ?_
      refine lv_iconst (v := (nI 5)) hx hb dX7_skins_26 (ic_5) ?_
      refine lv_icmp_ge (tgt := 66) hx hb dX7_skins_27 (by decide) (fun hc => ?_) (fun hc => ?_)
      · have hf := if_t hf hc
        have hK9 := K_of hf hK
        have hK9 := hX24 _ hK9
        exact hK9 _ _ _ hP hD hS (lv_sub hl [0, 1, 2, 3] rfl)
      · have hf := if_f hf hc
        refine lv_aload_n hx hb dX7_skins_30 rfl (lv_at hl 0 rfl) ?_
        refine va_get (C := RX7) (T := TX7) (N := 34) (ci := 7) (v := .ref (ad 1)) hx hb hts inX7 hown hT hP 0 rfl rfl 0 (Nat.le_of_ble_eq_true rfl) lk7 (fun _ h => h) rfl dX7_skins_31 ?_
        refine lv_iconst (v := (nI 3)) hx hb dX7_skins_34 (ic_3) ?_
        refine lv_iload_n hx hb dX7_skins_35 rfl (lv_at hl 1 rfl) ?_
        refine lv_iadd hx hb dX7_skins_36 ?_
        refine lv_iload hx hb dX7_skins_37 (lv_at hl 4 rfl) ?_
        obtain ⟨hg, hf⟩ := gd_e hf
        obtain ⟨g39, eg39, hf⟩ := bnd_e hf
        refine va_iast (f := f_ 1) hx hb hT hP hD hS 1 0 rfl rfl (inb_e hg) dX7_skins_39 (fun H locs hP hD hS => ?_)
        rw [← eg39] at hP hD
        have hP : va_P G.1 vwCl (wX7 G ad (mrow 1 (g39) f_)) H := hP
        have hD : va_D A (wX7 G ad (mrow 1 (g39) f_)) := hD
        refine lv_iload_n hx hb dX7_skins_40 rfl (lv_at hl 3 rfl) ?_
        refine lv_aload_n hx hb dX7_skins_41 rfl (lv_at hl 0 rfl) ?_
        refine lv_iload_n hx hb dX7_skins_42 rfl (lv_at hl 1 rfl) ?_
        refine lv_iconst (v := (nI 0)) hx hb dX7_skins_43 (ic_0) ?_
        obtain ⟨⟨r44, f_44⟩, hc44, hf⟩ := bd_e hf
        try dsimp only at hf
        refine cl_z_same (Wd := (wX7 G ad (mrow 1 (g39) f_))) (W' := (wX7 G ad f_44)) (va_runV (As := [.int x1, .int (nI 0)]) (rest := [.int x3]) hC (c_X7_isAsSeen l G ad (mrow 1 (g39) f_) x1 (nI 0) r44 f_44 hc44 _) (cwV 2 hts gX7_skins_X7_isAsSeen rfl rfl rfl (by decide +kernel) ⟨Nat.le_of_ble_eq_true rfl, Nat.le_of_ble_eq_true rfl⟩) ⟨Pc0_blind, va_recv hT hP (q0 := 0) (ci := 7) rfl rfl, fun U hU hW => Pc0_at hE hP hD hU hW⟩ rfl rfl hl.1 rfl (lv_room (Nat.le_of_ble_eq_true rfl)) dX7_skins_44 ⟨Nat.zero_le _, Nat.zero_le _⟩) hS hA hD (fun H locs hn44 hP hD hS => ?_)
        refine lv_if_eq (tgt := 57) hx hb dX7_skins_47 (by decide) (fun hc => ?_) (fun hc => ?_)
        · have hf := if_t hf hc
          refine lv_iconst (v := (nI 0)) hx hb dX7_skins_57 (ic_0) ?_
          exact hB58 f_44 x4 (nI 0) x3 _ hf hK _ _ _ hP hD hS (lv_sub hl [0, 1, 2, 4] rfl)
        · have hf := if_f hf hc
          refine lv_iconst (v := (nI 1)) hx hb dX7_skins_50 (ic_1) ?_
          refine lv_iload hx hb dX7_skins_51 (lv_at hl 4 rfl) ?_
          refine lv_ishl hx hb dX7_skins_53 ?_
          refine lv_goto (tgt := 58) hx hb dX7_skins_54 (by decide) ?_
          exact hB58 f_44 x4 ((nI 1) <<< (x4 &&& 31)) x3 _ hf hK _ _ _ hP hD hS (lv_sub hl [0, 1, 2, 4] rfl)
    · try dsimp only at hf
      show ∀ (H : Heap) (locs : List Loc) (ls : Array Slot), va_P G.1 vwCl (wX7 G ad f_24) H → va_D A (wX7 G ad f_24) → va_S A s.heap H locs → lv_has ls 5 [(0, .ref (ad 0)), (1, .int x1), (2, .int (f 1 ((nI 3) + x1).toNatClampNeg)), (3, .int y3_24)] → W p l e ({ frames := 6, cells := 0, slots := 0, locals := 133 }) s m args below meth c H locs 0 0 Q (F0 m 66 ls [])
      intro H locs ls hP hD hS hl
      refine lv_aload_n hx hb dX7_skins_66 rfl (lv_at hl 0 rfl) ?_
      refine va_get (C := RX7) (T := TX7) (N := 34) (ci := 7) (v := .ref (ad 1)) hx hb hts inX7 hown hT hP 0 rfl rfl 0 (Nat.le_of_ble_eq_true rfl) lk7 (fun _ h => h) rfl dX7_skins_67 ?_
      refine lv_iconst (v := (nI 3)) hx hb dX7_skins_70 (ic_3) ?_
      refine lv_iload_n hx hb dX7_skins_71 rfl (lv_at hl 1 rfl) ?_
      refine lv_iadd hx hb dX7_skins_72 ?_
      refine lv_iload_n hx hb dX7_skins_73 rfl (lv_at hl 2 rfl) ?_
      obtain ⟨hg, hf⟩ := gd_e hf
      obtain ⟨g74, eg74, hf⟩ := bnd_e hf
      refine va_iast (f := f_24 1) hx hb hT hP hD hS 1 0 rfl rfl (inb_e hg) dX7_skins_74 (fun H locs hP hD hS => ?_)
      rw [← eg74] at hP hD
      have hP : va_P G.1 vwCl (wX7 G ad (mrow 1 (g74) f_24)) H := hP
      have hD : va_D A (wX7 G ad (mrow 1 (g74) f_24)) := hD
      refine lv_iload_n hx hb dX7_skins_75 rfl (lv_at hl 3 rfl) ?_
      have hK9 := K0_of hf hK
      exact hRet y3_24 (mrow 1 (g74) f_24) _ _ _ _ hK9 dX7_skins_76 hP hD hS
  · have hf := if_t hf hc
    refine lv_iconst (v := (-1 : Int32)) hx hb dX7_skins_8 (ic_m1) ?_
    have hK9 := K0_of hf hK
    exact hRet (-1 : Int32) f _ _ _ _ hK9 dX7_skins_9 hP hD hS
noncomputable def p_X7_look_B181 (f : Mem) (x2 : Int32) (x3 : Int32) (x4 : Int32) (x6 : Int32) (x7 : Int32) (s0 : Int32) : Option ((Int32 × Int32 × Int32) ⊕ (Int32 × Int32)) :=
  if x4 ≤ x7 then
    (some (Sum.inl (x4, s0, (x6 + nI 1))))
  else
    (some (Sum.inl (x7, s0, (x6 + nI 1))))
noncomputable def p_X7_look_B135 (f : Mem) (x2 : Int32) (x3 : Int32) (x4 : Int32) (x5 : Int32) (x6 : Int32) (x7 : Int32) (x8 : Int32) (x9 : Int32) : Option ((Int32 × Int32) ⊕ Int32) :=
  if x9 ≤ x7 then
    (some (Sum.inl (x7, (x8 + nI 1))))
  else
    (some (Sum.inl (x9, (x8 + nI 1))))
noncomputable def p_X7_look_L64 (f : Mem) (x2 : Int32) (x3 : Int32) (x4 : Int32) (x5 : Int32) (x6 : Int32) (x7 : Int32) (x8 : Int32) (z : Int32 × Int32) : Option ((Int32 × Int32) ⊕ Int32) :=
  match z with
  | (x9, x10) =>
    if (nI 4) ≤ x10 then
      (some (Sum.inr x9))
    else
      (if ((x3 >>> (x8 &&& 31)) &&& (nI 1)) = (nI 1) then
         (if ((x3 >>> (x10 &&& 31)) &&& (nI 1)) = (nI 1) then
            (gd (inb (((nI 105) * x8) + x6) 420) <|
             gd (inb (((nI 105) * x10) + x6) 420) <|
             if (f 7 (((nI 105) * x8) + x6).toNatClampNeg) = (f 7 (((nI 105) * x10) + x6).toNatClampNeg) then
               (some (Sum.inl ((x9 + (nI 1)), (x10 + nI 1))))
             else
               (some (Sum.inl ((x9 + (nI 0)), (x10 + nI 1)))))
          else
            (some (Sum.inl ((x9 + (nI 0)), (x10 + nI 1)))))
       else
         (some (Sum.inr x9)))
noncomputable def p_X7_look_L52 (f : Mem) (x2 : Int32) (x3 : Int32) (x4 : Int32) (x5 : Int32) (x6 : Int32) (z : Int32 × Int32) : Option ((Int32 × Int32) ⊕ Int32) :=
  match z with
  | (x7, x8) =>
    if (nI 4) ≤ x8 then
      (some (Sum.inr x7))
    else
      (Option.bind (lp (p_X7_look_L64 f x2 x3 x4 x5 x6 x7 x8) ((nI 0), (nI 0))) <| fun y9_64 =>
       p_X7_look_B135 f x2 x3 x4 x5 x6 x7 x8 y9_64)
noncomputable def p_X7_look_L39 (f : Mem) (x2 : Int32) (x3 : Int32) (z : Int32 × Int32 × Int32) : Option ((Int32 × Int32 × Int32) ⊕ (Int32 × Int32)) :=
  match z with
  | (x4, x5, x6) =>
    if (nI 105) ≤ x6 then
      (some (Sum.inr (x4, x5)))
    else
      (Option.bind (lp (p_X7_look_L52 f x2 x3 x4 x5 x6) ((nI 0), (nI 0))) <| fun y7_52 =>
       if x4 ≤ y7_52 then
         (p_X7_look_B181 f x2 x3 x4 x6 y7_52 x5)
       else
         (p_X7_look_B181 f x2 x3 x4 x6 y7_52 (((nI 10) * (x6 / (nI 5))) + (x6 - x6 / (nI 5) * (nI 5)))))
noncomputable def p_X7_look (f : Mem) (x1 : Int32) (x2 : Int32) : Option (Int32 × Mem) :=
  Option.bind (p_X7_isGoose f x1) <| fun r2 =>
  if r2 = 0 then
    (some ((-1 : Int32), f))
  else
    (Option.bind (p_X7_in ((x2).toInt64) (lN 0) (lN 1)) <| fun r12 =>
     if r12 = 0 then
       (some ((-1 : Int32), f))
     else
       (Option.bind (p_X7_kindsOf f x1) <| fun (r22, f_22) =>
        Option.bind (p_X7_bitsOf r22) <| fun r27 =>
        Option.bind (lp (p_X7_look_L39 f_22 x2 r22) (r27, (-4 : Int32), (nI 0))) <| fun (y4_39, y5_39) =>
        if y5_39 = (-4 : Int32) then
          (some (y5_39, f_22))
        else
          (if x2 = 0 then
             (some (y5_39, f_22))
           else
             (some (y4_39, f_22)))))
set_option maxHeartbeats 4000000 in
set_option maxRecDepth 100000 in
theorem c_X7_look (l : Launch) (G : Gt) (ad : Nat → Nat) (f : Mem) (x1 : Int32) (x2 : Int32) (r : Int32) (fz : Mem) (hf : p_X7_look f x1 x2 = some (r, fz)) (sz : Nat) : Met l yX7_look wsX7_look ({ frames := 7, cells := 0, slots := 0, locals := 157 }) (Pc0 G sz [.ref (ad 0), .int x1, .int x2] (wX7 G ad f)) (Qi0 G (va_A (wX7 G ad f) sz) r (wX7 G ad fz)) 0 0 (va_A (wX7 G ad f) sz) := by
  refine metP (Qf := fun A => Qi0 G A r (wX7 G ad fz)) cX7_look 11 (some .int) (by decide) rfl (Nat.le_of_ble_eq_true rfl) ?_
  intro p e s m below meth c A ls hC hr hlocks hin hE hA hsz hP hD hS hl
  generalize hargs : ([.ref (ad 0), .int x1, .int x2] : List Value).toArray = args at hC ⊢
  obtain ⟨hx, hb, hml, hown, hts⟩ := id hC
  have hT : va_K G.1 vwCl (tyL G) s := hE.1
  have hRet : ∀ (r9 : Int32) (f9 : Mem) (H : Heap) (locs : List Loc) (ls : Array Slot) (pc : Nat) (hK9 : (r9, f9) = (r, fz)) (hdg : decode cX7_look pc = .ok (.ireturn, 1)), va_P G.1 vwCl (wX7 G ad f9) H → va_D A (wX7 G ad f9) → va_S A s.heap H locs → W p l e ({ frames := 7, cells := 0, slots := 0, locals := 157 }) s m args below meth c H locs 0 0 (MQ below (Qi0 G A r (wX7 G ad fz)) args s 0 0 A) (F0 m pc ls [.int r9]) := by
    intro r9 f9 H locs ls pc hK9 hdg hP hD hS
    cases hK9
    exact W.iret hx hb hr (fun t ht hW => ⟨⟨r, (), rfl, rfl, by rw [ht]; exact hP, hD⟩, hS.F ht⟩) hS.2.2 hdg hlocks
  generalize MQ below (Qi0 G A r (wX7 G ad fz)) args s 0 0 A = Q at hRet ⊢
  have lk28 := hts (.fieldLink RX7 28 "FeatherSharesModel" "shareBy" "[I") (by decide +kernel)
  have inX7 : ∀ w ∈ u_ws RX7 TX7 34, w ∈ wsX7_look := by decide +kernel
  have hl : lv_has ls 11 [(0, .ref (ad 0)), (1, .int x1), (2, .int x2)] := hl
  have hK0 : (r, fz) = (r, fz) := rfl
  obtain ⟨res, hres, hK⟩ : ∃ res, p_X7_look f x1 x2 = some res ∧ res = (r, fz) := ⟨_, hf, rfl⟩
  clear hf
  have hf := hres
  clear hres
  unfold p_X7_look at hf
  refine lv_aload_n hx hb dX7_look_0 rfl (lv_at hl 0 rfl) ?_
  refine lv_iload_n hx hb dX7_look_1 rfl (lv_at hl 1 rfl) ?_
  obtain ⟨r2, hc2, hf⟩ := bd_e hf
  refine cl_z_same (Wd := (wX7 G ad f)) (W' := (wX7 G ad f)) (va_runV (As := [.int x1]) (rest := []) hC (c_X7_isGoose l G ad f x1 r2 hc2 _) (cwV 1 hts gX7_look_X7_isGoose rfl rfl rfl (by decide +kernel) ⟨Nat.le_of_ble_eq_true rfl, Nat.le_of_ble_eq_true rfl⟩) ⟨Pc0_blind, va_recv hT hP (q0 := 0) (ci := 7) rfl rfl, fun U hU hW => Pc0_at hE hP hD hU hW⟩ rfl rfl hl.1 rfl (lv_room (Nat.le_of_ble_eq_true rfl)) dX7_look_2 ⟨Nat.zero_le _, Nat.zero_le _⟩) hS hA hD (fun H locs hn2 hP hD hS => ?_)
  refine lv_if_eq (tgt := 18) hx hb dX7_look_5 (by decide) (fun hc => ?_) (fun hc => ?_)
  · have hf := if_t hf hc
    refine lv_iconst (v := (-1 : Int32)) hx hb dX7_look_18 (ic_m1) ?_
    have hK9 := K0_of hf hK
    exact hRet (-1 : Int32) f _ _ _ _ hK9 dX7_look_19 hP hD hS
  · have hf := if_f hf hc
    refine lv_iload_n hx hb dX7_look_8 rfl (lv_at hl 2 rfl) ?_
    refine lv_i2l (v := ((x2).toInt64)) hx hb dX7_look_9 rfl ?_
    refine lv_lconst (v := (lN 0)) hx hb dX7_look_10 rfl ?_
    refine lv_lconst (v := (lN 1)) hx hb dX7_look_11 rfl ?_
    obtain ⟨r12, hc12, hf⟩ := bd_e hf
    refine cl_z_ro (Wd := (wX7 G ad f)) (Wc := ([] : va_W)) [] rfl (va_runS (As := [.long ((x2).toInt64), .long (lN 0), .long (lN 1)]) (rest := []) hC (c_X7_in l G ((x2).toInt64) (lN 0) (lN 1) r12 hc12 _) (va_cwS 3 hts gX7_look_X7_in rfl rfl rfl (by decide +kernel) ⟨Nat.le_of_ble_eq_true rfl, Nat.le_of_ble_eq_true rfl⟩) ⟨Pc0_blind, fun U hU hW => Pc0_at (Wd := ([] : va_W)) hE (hP.subm [] rfl) (hD.sub [] (by decide) rfl) hU hW⟩ rfl rfl hl.1 rfl (lv_room (Nat.le_of_ble_eq_true rfl)) dX7_look_12 ⟨Nat.zero_le _, Nat.zero_le _⟩) hS hA hP hD (fun H locs hn12 hP hD hS => ?_)
    refine lv_if_ne (tgt := 20) hx hb dX7_look_15 (by decide) (fun hc => ?_) (fun hc => ?_)
    · have hf := if_f hf hc
      refine lv_aload_n hx hb dX7_look_20 rfl (lv_at hl 0 rfl) ?_
      refine lv_iload_n hx hb dX7_look_21 rfl (lv_at hl 1 rfl) ?_
      obtain ⟨⟨r22, f_22⟩, hc22, hf⟩ := bd_e hf
      try dsimp only at hf
      refine cl_i_same (Wd := (wX7 G ad f)) (W' := (wX7 G ad f_22)) (va_runV (As := [.int x1]) (rest := []) hC (c_X7_kindsOf l G ad f x1 r22 f_22 hc22 _) (cwV 1 hts gX7_look_X7_kindsOf rfl rfl rfl (by decide +kernel) ⟨Nat.le_of_ble_eq_true rfl, Nat.le_of_ble_eq_true rfl⟩) ⟨Pc0_blind, va_recv hT hP (q0 := 0) (ci := 7) rfl rfl, fun U hU hW => Pc0_at hE hP hD hU hW⟩ rfl rfl hl.1 rfl (lv_room (Nat.le_of_ble_eq_true rfl)) dX7_look_22 ⟨Nat.zero_le _, Nat.zero_le _⟩) hS hA hD (fun H locs hP hD hS => ?_)
      refine lv_istore_n (lv' := [(3, .int r22), (0, .ref (ad 0)), (1, .int x1), (2, .int x2)]) hx hb dX7_look_25 rfl hl (by decide) rfl (fun ls hl => ?_)
      refine lv_iload_n hx hb dX7_look_26 rfl (lv_at hl 0 rfl) ?_
      obtain ⟨r27, hc27, hf⟩ := bd_e hf
      refine cl_i_ro (Wd := (wX7 G ad f_22)) (Wc := ([] : va_W)) [] rfl (va_runS (As := [.int r22]) (rest := []) hC (c_X7_bitsOf l G r22 r27 hc27 _) (va_cwS 1 hts gX7_look_X7_bitsOf rfl rfl rfl (by decide +kernel) ⟨Nat.le_of_ble_eq_true rfl, Nat.le_of_ble_eq_true rfl⟩) ⟨Pc0_blind, fun U hU hW => Pc0_at (Wd := ([] : va_W)) hE (hP.subm [] rfl) (hD.sub [] (by decide) rfl) hU hW⟩ rfl rfl hl.1 rfl (lv_room (Nat.le_of_ble_eq_true rfl)) dX7_look_27 ⟨Nat.zero_le _, Nat.zero_le _⟩) hS hA hP hD (fun H locs hP hD hS => ?_)
      refine lv_istore (lv' := [(4, .int r27), (3, .int r22), (0, .ref (ad 0)), (1, .int x1), (2, .int x2)]) hx hb dX7_look_30 hl (by decide) rfl (fun ls hl => ?_)
      refine lv_bipush (v := (-4 : Int32)) hx hb dX7_look_32 (bi_m4) ?_
      refine lv_istore (lv' := [(5, .int (-4 : Int32)), (4, .int r27), (3, .int r22), (0, .ref (ad 0)), (1, .int x1), (2, .int x2)]) hx hb dX7_look_34 hl (by decide) rfl (fun ls hl => ?_)
      refine lv_iconst (v := (nI 0)) hx hb dX7_look_36 (ic_0) ?_
      refine lv_istore (lv' := [(6, .int (nI 0)), (5, .int (-4 : Int32)), (4, .int r27), (3, .int r22), (0, .ref (ad 0)), (1, .int x1), (2, .int x2)]) hx hb dX7_look_37 hl (by decide) rfl (fun ls hl => ?_)
      obtain ⟨⟨y4_39, y5_39⟩, hlp, hf⟩ := bd_e hf
      refine lp_W1 (p_X7_look_L39 f_22 x2 r22) (fun z => match z with | (x4, x5, x6) => ∀ (H : Heap) (locs : List Loc) (ls : Array Slot), va_P G.1 vwCl (wX7 G ad f_22) H → va_D A (wX7 G ad f_22) → va_S A s.heap H locs → lv_has ls 11 [(0, .ref (ad 0)), (2, .int x2), (3, .int r22), (4, .int x4), (5, .int x5), (6, .int x6)] → W p l e ({ frames := 7, cells := 0, slots := 0, locals := 157 }) s m args below meth c H locs 0 0 Q (F0 m 39 ls [])) (fun z => match z with | (y4_39, y5_39) => ∀ (H : Heap) (locs : List Loc) (ls : Array Slot), va_P G.1 vwCl (wX7 G ad f_22) H → va_D A (wX7 G ad f_22) → va_S A s.heap H locs → lv_has ls 11 [(2, .int x2), (4, .int y4_39), (5, .int y5_39)] → W p l e ({ frames := 7, cells := 0, slots := 0, locals := 157 }) s m args below meth c H locs 0 0 Q (F0 m 205 ls [])) ?_ hlp ?_ _ _ _ hP hD hS (lv_sub hl [4, 6, 3, 2, 1, 0] rfl)
      · clear hlp hf hK hP hD hS hl
        generalize f_22 = f
        generalize r22 = x3
        intro K39 hW39 hX39 
        have hB181 : ∀ (x4 : Int32) (x6 : Int32) (x7 : Int32) (s0 : Int32) (res : (Int32 × Int32 × Int32) ⊕ (Int32 × Int32)) (hf : p_X7_look_B181 f x2 x3 x4 x6 x7 s0 = some res) (hK : K39 res), ∀ (H : Heap) (locs : List Loc) (ls : Array Slot), va_P G.1 vwCl (wX7 G ad f) H → va_D A (wX7 G ad f) → va_S A s.heap H locs → lv_has ls 11 [(0, .ref (ad 0)), (2, .int x2), (3, .int x3), (4, .int x4), (6, .int x6), (7, .int x7)] → W p l e ({ frames := 7, cells := 0, slots := 0, locals := 157 }) s m args below meth c H locs 0 0 Q (F0 m 181 ls [.int s0]) := by
          intro x4 x6 x7 s0 res hf hK H locs ls hP hD hS hl
          unfold p_X7_look_B181 at hf
          refine lv_istore (lv' := [(5, .int s0), (0, .ref (ad 0)), (2, .int x2), (3, .int x3), (4, .int x4), (6, .int x6), (7, .int x7)]) hx hb dX7_look_181 hl (by decide) rfl (fun ls hl => ?_)
          refine lv_iload hx hb dX7_look_183 (lv_at hl 6 rfl) ?_
          refine lv_iload hx hb dX7_look_185 (lv_at hl 4 rfl) ?_
          refine lv_icmp_ge (tgt := 195) hx hb dX7_look_187 (by decide) (fun hc => ?_) (fun hc => ?_)
          · have hf := if_t hf hc
            refine lv_iload hx hb dX7_look_195 (lv_at hl 4 rfl) ?_
            refine lv_istore (lv' := [(4, .int x4), (5, .int s0), (0, .ref (ad 0)), (2, .int x2), (3, .int x3), (6, .int x6), (7, .int x7)]) hx hb dX7_look_197 hl (by decide) rfl (fun ls hl => ?_)
            refine lv_iinc (v := (x6 + nI 1)) (lv' := [(6, .int (x6 + nI 1)), (4, .int x4), (5, .int s0), (0, .ref (ad 0)), (2, .int x2), (3, .int x3), (7, .int x7)]) hx hb dX7_look_199 hl (k := 5) rfl (ii_x 1 _) (by decide) rfl (fun ls hl => ?_)
            refine lv_goto (tgt := 39) hx hb dX7_look_202 (by decide) ?_
            have hK9 := K_of hf hK
            have hK9 := hW39 _ hK9
            exact hK9 _ _ _ hP hD hS (lv_sub hl [3, 4, 5, 1, 2, 0] rfl)
          · have hf := if_f hf hc
            refine lv_iload hx hb dX7_look_190 (lv_at hl 6 rfl) ?_
            refine lv_goto (tgt := 197) hx hb dX7_look_192 (by decide) ?_
            refine lv_istore (lv' := [(4, .int x7), (5, .int s0), (0, .ref (ad 0)), (2, .int x2), (3, .int x3), (6, .int x6), (7, .int x7)]) hx hb dX7_look_197 hl (by decide) rfl (fun ls hl => ?_)
            refine lv_iinc (v := (x6 + nI 1)) (lv' := [(6, .int (x6 + nI 1)), (4, .int x7), (5, .int s0), (0, .ref (ad 0)), (2, .int x2), (3, .int x3), (7, .int x7)]) hx hb dX7_look_199 hl (k := 5) rfl (ii_x 1 _) (by decide) rfl (fun ls hl => ?_)
            refine lv_goto (tgt := 39) hx hb dX7_look_202 (by decide) ?_
            have hK9 := K_of hf hK
            have hK9 := hW39 _ hK9
            exact hK9 _ _ _ hP hD hS (lv_sub hl [3, 4, 5, 1, 2, 0] rfl)
        rintro ⟨x4, x5, x6⟩ res hf hK H locs ls hP hD hS hl
        unfold p_X7_look_L39 at hf
        dsimp only at hf
        refine lv_iload hx hb dX7_look_39 (lv_at hl 5 rfl) ?_
        refine lv_bipush (v := (nI 105)) hx hb dX7_look_41 (bi_105) ?_
        refine lv_icmp_ge (tgt := 205) hx hb dX7_look_43 (by decide) (fun hc => ?_) (fun hc => ?_)
        · have hf := if_t hf hc
          have hK9 := K_of hf hK
          have hK9 := hX39 _ hK9
          exact hK9 _ _ _ hP hD hS (lv_sub hl [1, 3, 4] rfl)
        · have hf := if_f hf hc
          refine lv_iconst (v := (nI 0)) hx hb dX7_look_46 (ic_0) ?_
          refine lv_istore (lv' := [(7, .int (nI 0)), (0, .ref (ad 0)), (2, .int x2), (3, .int x3), (4, .int x4), (5, .int x5), (6, .int x6)]) hx hb dX7_look_47 hl (by decide) rfl (fun ls hl => ?_)
          refine lv_iconst (v := (nI 0)) hx hb dX7_look_49 (ic_0) ?_
          refine lv_istore (lv' := [(8, .int (nI 0)), (7, .int (nI 0)), (0, .ref (ad 0)), (2, .int x2), (3, .int x3), (4, .int x4), (5, .int x5), (6, .int x6)]) hx hb dX7_look_50 hl (by decide) rfl (fun ls hl => ?_)
          obtain ⟨y7_52, hlp, hf⟩ := bd_e hf
          refine lp_W1 (p_X7_look_L52 f x2 x3 x4 x5 x6) (fun z => match z with | (x7, x8) => ∀ (H : Heap) (locs : List Loc) (ls : Array Slot), va_P G.1 vwCl (wX7 G ad f) H → va_D A (wX7 G ad f) → va_S A s.heap H locs → lv_has ls 11 [(0, .ref (ad 0)), (2, .int x2), (3, .int x3), (4, .int x4), (5, .int x5), (6, .int x6), (7, .int x7), (8, .int x8)] → W p l e ({ frames := 7, cells := 0, slots := 0, locals := 157 }) s m args below meth c H locs 0 0 Q (F0 m 52 ls [])) (fun (y7_52 : Int32) => ∀ (H : Heap) (locs : List Loc) (ls : Array Slot), va_P G.1 vwCl (wX7 G ad f) H → va_D A (wX7 G ad f) → va_S A s.heap H locs → lv_has ls 11 [(0, .ref (ad 0)), (2, .int x2), (3, .int x3), (4, .int x4), (5, .int x5), (6, .int x6), (7, .int y7_52)] → W p l e ({ frames := 7, cells := 0, slots := 0, locals := 157 }) s m args below meth c H locs 0 0 Q (F0 m 157 ls [])) ?_ hlp ?_ _ _ _ hP hD hS (lv_sub hl [2, 3, 4, 5, 6, 7, 1, 0] rfl)
          · clear hlp hf hK hP hD hS hl
            intro K52 hW52 hX52 
            have hB135 : ∀ (x7 : Int32) (x8 : Int32) (x9 : Int32) (res : (Int32 × Int32) ⊕ Int32) (hf : p_X7_look_B135 f x2 x3 x4 x5 x6 x7 x8 x9 = some res) (hK : K52 res), ∀ (H : Heap) (locs : List Loc) (ls : Array Slot), va_P G.1 vwCl (wX7 G ad f) H → va_D A (wX7 G ad f) → va_S A s.heap H locs → lv_has ls 11 [(0, .ref (ad 0)), (2, .int x2), (3, .int x3), (4, .int x4), (5, .int x5), (6, .int x6), (7, .int x7), (8, .int x8), (9, .int x9)] → W p l e ({ frames := 7, cells := 0, slots := 0, locals := 157 }) s m args below meth c H locs 0 0 Q (F0 m 135 ls []) := by
              intro x7 x8 x9 res hf hK H locs ls hP hD hS hl
              unfold p_X7_look_B135 at hf
              refine lv_iload hx hb dX7_look_135 (lv_at hl 8 rfl) ?_
              refine lv_iload hx hb dX7_look_137 (lv_at hl 6 rfl) ?_
              refine lv_icmp_le (tgt := 147) hx hb dX7_look_139 (by decide) (fun hc => ?_) (fun hc => ?_)
              · have hf := if_t hf hc
                refine lv_iload hx hb dX7_look_147 (lv_at hl 6 rfl) ?_
                refine lv_istore (lv' := [(7, .int x7), (0, .ref (ad 0)), (2, .int x2), (3, .int x3), (4, .int x4), (5, .int x5), (6, .int x6), (8, .int x8), (9, .int x9)]) hx hb dX7_look_149 hl (by decide) rfl (fun ls hl => ?_)
                refine lv_iinc (v := (x8 + nI 1)) (lv' := [(8, .int (x8 + nI 1)), (7, .int x7), (0, .ref (ad 0)), (2, .int x2), (3, .int x3), (4, .int x4), (5, .int x5), (6, .int x6), (9, .int x9)]) hx hb dX7_look_151 hl (k := 7) rfl (ii_x 1 _) (by decide) rfl (fun ls hl => ?_)
                refine lv_goto (tgt := 52) hx hb dX7_look_154 (by decide) ?_
                have hK9 := K_of hf hK
                have hK9 := hW52 _ hK9
                exact hK9 _ _ _ hP hD hS (lv_sub hl [2, 3, 4, 5, 6, 7, 1, 0] rfl)
              · have hf := if_f hf hc
                refine lv_iload hx hb dX7_look_142 (lv_at hl 8 rfl) ?_
                refine lv_goto (tgt := 149) hx hb dX7_look_144 (by decide) ?_
                refine lv_istore (lv' := [(7, .int x9), (0, .ref (ad 0)), (2, .int x2), (3, .int x3), (4, .int x4), (5, .int x5), (6, .int x6), (8, .int x8), (9, .int x9)]) hx hb dX7_look_149 hl (by decide) rfl (fun ls hl => ?_)
                refine lv_iinc (v := (x8 + nI 1)) (lv' := [(8, .int (x8 + nI 1)), (7, .int x9), (0, .ref (ad 0)), (2, .int x2), (3, .int x3), (4, .int x4), (5, .int x5), (6, .int x6), (9, .int x9)]) hx hb dX7_look_151 hl (k := 7) rfl (ii_x 1 _) (by decide) rfl (fun ls hl => ?_)
                refine lv_goto (tgt := 52) hx hb dX7_look_154 (by decide) ?_
                have hK9 := K_of hf hK
                have hK9 := hW52 _ hK9
                exact hK9 _ _ _ hP hD hS (lv_sub hl [2, 3, 4, 5, 6, 7, 1, 0] rfl)
            rintro ⟨x7, x8⟩ res hf hK H locs ls hP hD hS hl
            unfold p_X7_look_L52 at hf
            dsimp only at hf
            refine lv_iload hx hb dX7_look_52 (lv_at hl 7 rfl) ?_
            refine lv_iconst (v := (nI 4)) hx hb dX7_look_54 (ic_4) ?_
            refine lv_icmp_ge (tgt := 157) hx hb dX7_look_55 (by decide) (fun hc => ?_) (fun hc => ?_)
            · have hf := if_t hf hc
              have hK9 := K_of hf hK
              have hK9 := hX52 _ hK9
              exact hK9 _ _ _ hP hD hS (lv_sub hl [0, 1, 2, 3, 4, 5, 6] rfl)
            · have hf := if_f hf hc
              refine lv_iconst (v := (nI 0)) hx hb dX7_look_58 (ic_0) ?_
              refine lv_istore (lv' := [(9, .int (nI 0)), (0, .ref (ad 0)), (2, .int x2), (3, .int x3), (4, .int x4), (5, .int x5), (6, .int x6), (7, .int x7), (8, .int x8)]) hx hb dX7_look_59 hl (by decide) rfl (fun ls hl => ?_)
              refine lv_iconst (v := (nI 0)) hx hb dX7_look_61 (ic_0) ?_
              refine lv_istore (lv' := [(10, .int (nI 0)), (9, .int (nI 0)), (0, .ref (ad 0)), (2, .int x2), (3, .int x3), (4, .int x4), (5, .int x5), (6, .int x6), (7, .int x7), (8, .int x8)]) hx hb dX7_look_62 hl (by decide) rfl (fun ls hl => ?_)
              obtain ⟨y9_64, hlp, hf⟩ := bd_e hf
              refine lp_W1 (p_X7_look_L64 f x2 x3 x4 x5 x6 x7 x8) (fun z => match z with | (x9, x10) => ∀ (H : Heap) (locs : List Loc) (ls : Array Slot), va_P G.1 vwCl (wX7 G ad f) H → va_D A (wX7 G ad f) → va_S A s.heap H locs → lv_has ls 11 [(0, .ref (ad 0)), (2, .int x2), (3, .int x3), (4, .int x4), (5, .int x5), (6, .int x6), (7, .int x7), (8, .int x8), (9, .int x9), (10, .int x10)] → W p l e ({ frames := 7, cells := 0, slots := 0, locals := 157 }) s m args below meth c H locs 0 0 Q (F0 m 64 ls [])) (fun (y9_64 : Int32) => ∀ (H : Heap) (locs : List Loc) (ls : Array Slot), va_P G.1 vwCl (wX7 G ad f) H → va_D A (wX7 G ad f) → va_S A s.heap H locs → lv_has ls 11 [(0, .ref (ad 0)), (2, .int x2), (3, .int x3), (4, .int x4), (5, .int x5), (6, .int x6), (7, .int x7), (8, .int x8), (9, .int y9_64)] → W p l e ({ frames := 7, cells := 0, slots := 0, locals := 157 }) s m args below meth c H locs 0 0 Q (F0 m 135 ls [])) ?_ hlp ?_ _ _ _ hP hD hS (lv_sub hl [2, 3, 4, 5, 6, 7, 8, 9, 1, 0] rfl)
              · clear hlp hf hK hP hD hS hl
                intro K64 hW64 hX64 
                rintro ⟨x9, x10⟩ res hf hK H locs ls hP hD hS hl
                unfold p_X7_look_L64 at hf
                dsimp only at hf
                refine lv_iload hx hb dX7_look_64 (lv_at hl 9 rfl) ?_
                refine lv_iconst (v := (nI 4)) hx hb dX7_look_66 (ic_4) ?_
                refine lv_icmp_ge (tgt := 135) hx hb dX7_look_67 (by decide) (fun hc => ?_) (fun hc => ?_)
                · have hf := if_t hf hc
                  have hK9 := K_of hf hK
                  have hK9 := hX64 _ hK9
                  exact hK9 _ _ _ hP hD hS (lv_sub hl [0, 1, 2, 3, 4, 5, 6, 7, 8] rfl)
                · have hf := if_f hf hc
                  refine lv_iload_n hx hb dX7_look_70 rfl (lv_at hl 2 rfl) ?_
                  refine lv_iload hx hb dX7_look_71 (lv_at hl 7 rfl) ?_
                  refine lv_ishr hx hb dX7_look_73 ?_
                  refine lv_iconst (v := (nI 1)) hx hb dX7_look_74 (ic_1) ?_
                  refine lv_iand hx hb dX7_look_75 ?_
                  refine lv_iconst (v := (nI 1)) hx hb dX7_look_76 (ic_1) ?_
                  refine lv_icmp_ne (tgt := 135) hx hb dX7_look_77 (by decide) (fun hc => ?_) (fun hc => ?_)
                  · have hf := if_f hf hc
                    have hK9 := K_of hf hK
                    have hK9 := hX64 _ hK9
                    exact hK9 _ _ _ hP hD hS (lv_sub hl [0, 1, 2, 3, 4, 5, 6, 7, 8] rfl)
                  · have hf := if_t hf hc
                    refine lv_iload hx hb dX7_look_80 (lv_at hl 8 rfl) ?_
                    refine lv_iload_n hx hb dX7_look_82 rfl (lv_at hl 2 rfl) ?_
                    refine lv_iload hx hb dX7_look_83 (lv_at hl 9 rfl) ?_
                    refine lv_ishr hx hb dX7_look_85 ?_
                    refine lv_iconst (v := (nI 1)) hx hb dX7_look_86 (ic_1) ?_
                    refine lv_iand hx hb dX7_look_87 ?_
                    refine lv_iconst (v := (nI 1)) hx hb dX7_look_88 (ic_1) ?_
                    refine lv_icmp_ne (tgt := 125) hx hb dX7_look_89 (by decide) (fun hc => ?_) (fun hc => ?_)
                    · have hf := if_f hf hc
                      refine lv_iconst (v := (nI 0)) hx hb dX7_look_125 (ic_0) ?_
                      refine lv_iadd hx hb dX7_look_126 ?_
                      refine lv_istore (lv' := [(9, .int (x9 + (nI 0))), (0, .ref (ad 0)), (2, .int x2), (3, .int x3), (4, .int x4), (5, .int x5), (6, .int x6), (7, .int x7), (8, .int x8), (10, .int x10)]) hx hb dX7_look_127 hl (by decide) rfl (fun ls hl => ?_)
                      refine lv_iinc (v := (x10 + nI 1)) (lv' := [(10, .int (x10 + nI 1)), (9, .int (x9 + (nI 0))), (0, .ref (ad 0)), (2, .int x2), (3, .int x3), (4, .int x4), (5, .int x5), (6, .int x6), (7, .int x7), (8, .int x8)]) hx hb dX7_look_129 hl (k := 9) rfl (ii_x 1 _) (by decide) rfl (fun ls hl => ?_)
                      refine lv_goto (tgt := 64) hx hb dX7_look_132 (by decide) ?_
                      have hK9 := K_of hf hK
                      have hK9 := hW64 _ hK9
                      exact hK9 _ _ _ hP hD hS (lv_sub hl [2, 3, 4, 5, 6, 7, 8, 9, 1, 0] rfl)
                    · have hf := if_t hf hc
                      refine lv_aload_n hx hb dX7_look_92 rfl (lv_at hl 0 rfl) ?_
                      refine va_get (C := RX7) (T := TX7) (N := 34) (ci := 7) (v := .ref (ad 7)) hx hb hts inX7 hown hT hP 0 rfl rfl 28 (Nat.le_of_ble_eq_true rfl) lk28 (fun _ h => h) rfl dX7_look_93 ?_
                      refine lv_bipush (v := (nI 105)) hx hb dX7_look_96 (bi_105) ?_
                      refine lv_iload hx hb dX7_look_98 (lv_at hl 7 rfl) ?_
                      refine lv_imul hx hb dX7_look_100 ?_
                      refine lv_iload hx hb dX7_look_101 (lv_at hl 5 rfl) ?_
                      refine lv_iadd hx hb dX7_look_103 ?_
                      obtain ⟨hg, hf⟩ := gd_e hf
                      refine va_iald (f := f 7) hx hb hT hP 7 0 rfl rfl (inb_e hg) dX7_look_104 ?_
                      refine lv_aload_n hx hb dX7_look_105 rfl (lv_at hl 0 rfl) ?_
                      refine va_get (C := RX7) (T := TX7) (N := 34) (ci := 7) (v := .ref (ad 7)) hx hb hts inX7 hown hT hP 0 rfl rfl 28 (Nat.le_of_ble_eq_true rfl) lk28 (fun _ h => h) rfl dX7_look_106 ?_
                      refine lv_bipush (v := (nI 105)) hx hb dX7_look_109 (bi_105) ?_
                      refine lv_iload hx hb dX7_look_111 (lv_at hl 9 rfl) ?_
                      refine lv_imul hx hb dX7_look_113 ?_
                      refine lv_iload hx hb dX7_look_114 (lv_at hl 5 rfl) ?_
                      refine lv_iadd hx hb dX7_look_116 ?_
                      obtain ⟨hg, hf⟩ := gd_e hf
                      refine va_iald (f := f 7) hx hb hT hP 7 0 rfl rfl (inb_e hg) dX7_look_117 ?_
                      refine lv_icmp_ne (tgt := 125) hx hb dX7_look_118 (by decide) (fun hc => ?_) (fun hc => ?_)
                      · have hf := if_f hf hc
                        refine lv_iconst (v := (nI 0)) hx hb dX7_look_125 (ic_0) ?_
                        refine lv_iadd hx hb dX7_look_126 ?_
                        refine lv_istore (lv' := [(9, .int (x9 + (nI 0))), (0, .ref (ad 0)), (2, .int x2), (3, .int x3), (4, .int x4), (5, .int x5), (6, .int x6), (7, .int x7), (8, .int x8), (10, .int x10)]) hx hb dX7_look_127 hl (by decide) rfl (fun ls hl => ?_)
                        refine lv_iinc (v := (x10 + nI 1)) (lv' := [(10, .int (x10 + nI 1)), (9, .int (x9 + (nI 0))), (0, .ref (ad 0)), (2, .int x2), (3, .int x3), (4, .int x4), (5, .int x5), (6, .int x6), (7, .int x7), (8, .int x8)]) hx hb dX7_look_129 hl (k := 9) rfl (ii_x 1 _) (by decide) rfl (fun ls hl => ?_)
                        refine lv_goto (tgt := 64) hx hb dX7_look_132 (by decide) ?_
                        have hK9 := K_of hf hK
                        have hK9 := hW64 _ hK9
                        exact hK9 _ _ _ hP hD hS (lv_sub hl [2, 3, 4, 5, 6, 7, 8, 9, 1, 0] rfl)
                      · have hf := if_t hf hc
                        refine lv_iconst (v := (nI 1)) hx hb dX7_look_121 (ic_1) ?_
                        refine lv_goto (tgt := 126) hx hb dX7_look_122 (by decide) ?_
                        refine lv_iadd hx hb dX7_look_126 ?_
                        refine lv_istore (lv' := [(9, .int (x9 + (nI 1))), (0, .ref (ad 0)), (2, .int x2), (3, .int x3), (4, .int x4), (5, .int x5), (6, .int x6), (7, .int x7), (8, .int x8), (10, .int x10)]) hx hb dX7_look_127 hl (by decide) rfl (fun ls hl => ?_)
                        refine lv_iinc (v := (x10 + nI 1)) (lv' := [(10, .int (x10 + nI 1)), (9, .int (x9 + (nI 1))), (0, .ref (ad 0)), (2, .int x2), (3, .int x3), (4, .int x4), (5, .int x5), (6, .int x6), (7, .int x7), (8, .int x8)]) hx hb dX7_look_129 hl (k := 9) rfl (ii_x 1 _) (by decide) rfl (fun ls hl => ?_)
                        refine lv_goto (tgt := 64) hx hb dX7_look_132 (by decide) ?_
                        have hK9 := K_of hf hK
                        have hK9 := hW64 _ hK9
                        exact hK9 _ _ _ hP hD hS (lv_sub hl [2, 3, 4, 5, 6, 7, 8, 9, 1, 0] rfl)
              · try dsimp only at hf
                show ∀ (H : Heap) (locs : List Loc) (ls : Array Slot), va_P G.1 vwCl (wX7 G ad f) H → va_D A (wX7 G ad f) → va_S A s.heap H locs → lv_has ls 11 [(0, .ref (ad 0)), (2, .int x2), (3, .int x3), (4, .int x4), (5, .int x5), (6, .int x6), (7, .int x7), (8, .int x8), (9, .int y9_64)] → W p l e ({ frames := 7, cells := 0, slots := 0, locals := 157 }) s m args below meth c H locs 0 0 Q (F0 m 135 ls [])
                intro H locs ls hP hD hS hl
                exact hB135 x7 x8 y9_64 _ hf hK _ _ _ hP hD hS (lv_sub hl [0, 1, 2, 3, 4, 5, 6, 7, 8] rfl)
          · try dsimp only at hf
            show ∀ (H : Heap) (locs : List Loc) (ls : Array Slot), va_P G.1 vwCl (wX7 G ad f) H → va_D A (wX7 G ad f) → va_S A s.heap H locs → lv_has ls 11 [(0, .ref (ad 0)), (2, .int x2), (3, .int x3), (4, .int x4), (5, .int x5), (6, .int x6), (7, .int y7_52)] → W p l e ({ frames := 7, cells := 0, slots := 0, locals := 157 }) s m args below meth c H locs 0 0 Q (F0 m 157 ls [])
            intro H locs ls hP hD hS hl
            refine lv_iload hx hb dX7_look_157 (lv_at hl 6 rfl) ?_
            refine lv_iload hx hb dX7_look_159 (lv_at hl 3 rfl) ?_
            refine lv_icmp_ge (tgt := 179) hx hb dX7_look_161 (by decide) (fun hc => ?_) (fun hc => ?_)
            · have hf := if_t hf hc
              refine lv_iload hx hb dX7_look_179 (lv_at hl 4 rfl) ?_
              exact hB181 x4 x6 y7_52 x5 _ hf hK _ _ _ hP hD hS (lv_sub hl [0, 1, 2, 3, 5, 6] rfl)
            · have hf := if_f hf hc
              refine lv_bipush (v := (nI 10)) hx hb dX7_look_164 (bi_10) ?_
              refine lv_iload hx hb dX7_look_166 (lv_at hl 5 rfl) ?_
              refine lv_iconst (v := (nI 5)) hx hb dX7_look_168 (ic_5) ?_
              refine lv_idiv hx hb dX7_look_169 (by decide) ?_
              refine lv_imul hx hb dX7_look_170 ?_
              refine lv_iload hx hb dX7_look_171 (lv_at hl 5 rfl) ?_
              refine lv_iconst (v := (nI 5)) hx hb dX7_look_173 (ic_5) ?_
              refine lv_irem hx hb dX7_look_174 (by decide) ?_
              refine lv_iadd hx hb dX7_look_175 ?_
              refine lv_goto (tgt := 181) hx hb dX7_look_176 (by decide) ?_
              exact hB181 x4 x6 y7_52 (((nI 10) * (x6 / (nI 5))) + (x6 - x6 / (nI 5) * (nI 5))) _ hf hK _ _ _ hP hD hS (lv_sub hl [0, 1, 2, 3, 5, 6] rfl)
      · try dsimp only at hf
        show ∀ (H : Heap) (locs : List Loc) (ls : Array Slot), va_P G.1 vwCl (wX7 G ad f_22) H → va_D A (wX7 G ad f_22) → va_S A s.heap H locs → lv_has ls 11 [(2, .int x2), (4, .int y4_39), (5, .int y5_39)] → W p l e ({ frames := 7, cells := 0, slots := 0, locals := 157 }) s m args below meth c H locs 0 0 Q (F0 m 205 ls [])
        intro H locs ls hP hD hS hl
        refine lv_iload hx hb dX7_look_205 (lv_at hl 2 rfl) ?_
        refine lv_bipush (v := (-4 : Int32)) hx hb dX7_look_207 (bi_m4) ?_
        refine lv_icmp_eq (tgt := 216) hx hb dX7_look_209 (by decide) (fun hc => ?_) (fun hc => ?_)
        · have hf := if_t hf hc
          refine lv_iload hx hb dX7_look_216 (lv_at hl 2 rfl) ?_
          refine lv_goto (tgt := 223) hx hb dX7_look_218 (by decide) ?_
          have hK9 := K0_of hf hK
          exact hRet y5_39 f_22 _ _ _ _ hK9 dX7_look_223 hP hD hS
        · have hf := if_f hf hc
          refine lv_iload_n hx hb dX7_look_212 rfl (lv_at hl 0 rfl) ?_
          refine lv_if_ne (tgt := 221) hx hb dX7_look_213 (by decide) (fun hc => ?_) (fun hc => ?_)
          · have hf := if_f hf hc
            refine lv_iload hx hb dX7_look_221 (lv_at hl 1 rfl) ?_
            have hK9 := K0_of hf hK
            exact hRet y4_39 f_22 _ _ _ _ hK9 dX7_look_223 hP hD hS
          · have hf := if_t hf hc
            refine lv_iload hx hb dX7_look_216 (lv_at hl 2 rfl) ?_
            refine lv_goto (tgt := 223) hx hb dX7_look_218 (by decide) ?_
            have hK9 := K0_of hf hK
            exact hRet y5_39 f_22 _ _ _ _ hK9 dX7_look_223 hP hD hS
    · have hf := if_t hf hc
      refine lv_iconst (v := (-1 : Int32)) hx hb dX7_look_18 (ic_m1) ?_
      have hK9 := K0_of hf hK
      exact hRet (-1 : Int32) f _ _ _ _ hK9 dX7_look_19 hP hD hS
noncomputable def p_X7_drift_B145 (f_ : Mem) (x2 : Int32) (x3 : Int32) (x4 : Int32) (x5 : Int32) (x6 : Int32) (x7 : Int32) : Option ((Int32 × Int32 × Int32 × Int32 × Mem) ⊕ (Int32 × Int32 × Mem)) :=
  Option.bind (p_X7_weekOn f_ (nI 240) (nI 1)) <| fun (r152, f_152) =>
  some (Sum.inl (x4, (x5 + r152), x6, (x7 + nI 1), f_152))
noncomputable def p_X7_drift_L54 (x2 : Int32) (x3 : Int32) (z : Int32 × Int32 × Int32 × Int32 × Mem) : Option ((Int32 × Int32 × Int32 × Int32 × Mem) ⊕ (Int32 × Int32 × Mem)) :=
  match z with
  | (x4, x5, x6, x7, f_) =>
    if x2 ≤ x7 then
      (some (Sum.inr (x5, x6, f_)))
    else
      (if ((((((x4 * (1103515245 : Int32)) + (nI 12345)) >>> ((nI 16) &&& 31)) &&& (nI 32767)) / (nI 4)) - (((((x4 * (1103515245 : Int32)) + (nI 12345)) >>> ((nI 16) &&& 31)) &&& (nI 32767)) / (nI 4)) / (nI 5) * (nI 5)) = ((((((x4 * (1103515245 : Int32)) + (nI 12345)) >>> ((nI 16) &&& 31)) &&& (nI 32767)) / (nI 32)) - (((((x4 * (1103515245 : Int32)) + (nI 12345)) >>> ((nI 16) &&& 31)) &&& (nI 32767)) / (nI 32)) / (nI 5) * (nI 5)) then
         (p_X7_drift_B145 f_ x2 x3 ((x4 * (1103515245 : Int32)) + (nI 12345)) x5 x6 x7)
       else
         (gd (nz (f_ 0 0)) <|
          Option.bind (p_X7_buysOn f_ (nI 240) ((((((x4 * (1103515245 : Int32)) + (nI 12345)) >>> ((nI 16) &&& 31)) &&& (nI 32767)) / (nI 4)) - (((((x4 * (1103515245 : Int32)) + (nI 12345)) >>> ((nI 16) &&& 31)) &&& (nI 32767)) / (nI 4)) / (nI 5) * (nI 5)) ((((((x4 * (1103515245 : Int32)) + (nI 12345)) >>> ((nI 16) &&& 31)) &&& (nI 32767)) / (nI 32)) - (((((x4 * (1103515245 : Int32)) + (nI 12345)) >>> ((nI 16) &&& 31)) &&& (nI 32767)) / (nI 32)) / (nI 5) * (nI 5)) (((((x4 * (1103515245 : Int32)) + (nI 12345)) >>> ((nI 16) &&& 31)) &&& (nI 32767)) - ((((x4 * (1103515245 : Int32)) + (nI 12345)) >>> ((nI 16) &&& 31)) &&& (nI 32767)) / (f_ 0 0) * (f_ 0 0)) ((nI 1) + ((((((x4 * (1103515245 : Int32)) + (nI 12345)) >>> ((nI 16) &&& 31)) &&& (nI 32767)) / (nI 256)) - (((((x4 * (1103515245 : Int32)) + (nI 12345)) >>> ((nI 16) &&& 31)) &&& (nI 32767)) / (nI 256)) / (nI 9) * (nI 9)))) <| fun (r133, f_133) =>
          if r133 = 0 then
            (p_X7_drift_B145 f_133 x2 x3 ((x4 * (1103515245 : Int32)) + (nI 12345)) x5 x6 x7)
          else
            (some (Sum.inl (((x4 * (1103515245 : Int32)) + (nI 12345)), x5, (x6 + nI 1), (x7 + nI 1), f_133)))))
noncomputable def p_X7_drift (f : Mem) (x1 : Int32) (x2 : Int32) (x3 : Int32) : Option (Int32 × Mem) :=
  Option.bind (p_X7_in ((x2).toInt64) (lN 1) (60 : Int64)) <| fun r6 =>
  if r6 = 0 then
    (some ((-1 : Int32), f))
  else
    (Option.bind (p_X7_in ((x3).toInt64) (lN 0) (lN 1)) <| fun r16 =>
     if r16 = 0 then
       (some ((-1 : Int32), f))
     else
       (if (f 0 0) = 0 then
          (some ((-2 : Int32), f))
        else
          (Option.bind (p_X7_copies f (nI 0) (nI 240)) <| fun f_39 =>
           Option.bind (lp (p_X7_drift_L54 x2 x3) (x1, (nI 0), (nI 0), (nI 0), f_39)) <| fun (y5_54, y6_54, f_54) =>
           if x3 = 0 then
             (some (y5_54, f_54))
           else
             (some (y6_54, f_54)))))
set_option maxHeartbeats 4000000 in
set_option maxRecDepth 100000 in
theorem c_X7_drift (l : Launch) (G : Gt) (ad : Nat → Nat) (f : Mem) (x1 : Int32) (x2 : Int32) (x3 : Int32) (r : Int32) (fz : Mem) (hf : p_X7_drift f x1 x2 x3 = some (r, fz)) (sz : Nat) : Met l yX7_drift wsX7_drift ({ frames := 5, cells := 0, slots := 0, locals := 108 }) (Pc0 G sz [.ref (ad 0), .int x1, .int x2, .int x3] (wX7 G ad f)) (Qi0 G (va_A (wX7 G ad f) sz) r (wX7 G ad fz)) 0 0 (va_A (wX7 G ad f) sz) := by
  refine metP (Qf := fun A => Qi0 G A r (wX7 G ad fz)) cX7_drift 11 (some .int) (by decide) rfl (Nat.le_of_ble_eq_true rfl) ?_
  intro p e s m below meth c A ls hC hr hlocks hin hE hA hsz hP hD hS hl
  generalize hargs : ([.ref (ad 0), .int x1, .int x2, .int x3] : List Value).toArray = args at hC ⊢
  obtain ⟨hx, hb, hml, hown, hts⟩ := id hC
  have hT : va_K G.1 vwCl (tyL G) s := hE.1
  have hRet : ∀ (r9 : Int32) (f9 : Mem) (H : Heap) (locs : List Loc) (ls : Array Slot) (pc : Nat) (hK9 : (r9, f9) = (r, fz)) (hdg : decode cX7_drift pc = .ok (.ireturn, 1)), va_P G.1 vwCl (wX7 G ad f9) H → va_D A (wX7 G ad f9) → va_S A s.heap H locs → W p l e ({ frames := 5, cells := 0, slots := 0, locals := 108 }) s m args below meth c H locs 0 0 (MQ below (Qi0 G A r (wX7 G ad fz)) args s 0 0 A) (F0 m pc ls [.int r9]) := by
    intro r9 f9 H locs ls pc hK9 hdg hP hD hS
    cases hK9
    exact W.iret hx hb hr (fun t ht hW => ⟨⟨r, (), rfl, rfl, by rw [ht]; exact hP, hD⟩, hS.F ht⟩) hS.2.2 hdg hlocks
  generalize MQ below (Qi0 G A r (wX7 G ad fz)) args s 0 0 A = Q at hRet ⊢
  have lk128 := hts (.fieldLink RX7 128 "FeatherSharesModel" "gooseMany" "I") (by decide +kernel)
  have inX7 : ∀ w ∈ u_ws RX7 TX7 34, w ∈ wsX7_drift := by decide +kernel
  have hl : lv_has ls 11 [(0, .ref (ad 0)), (1, .int x1), (2, .int x2), (3, .int x3)] := hl
  have hK0 : (r, fz) = (r, fz) := rfl
  obtain ⟨res, hres, hK⟩ : ∃ res, p_X7_drift f x1 x2 x3 = some res ∧ res = (r, fz) := ⟨_, hf, rfl⟩
  clear hf
  have hf := hres
  clear hres
  unfold p_X7_drift at hf
  refine lv_iload_n hx hb dX7_drift_0 rfl (lv_at hl 2 rfl) ?_
  refine lv_i2l (v := ((x2).toInt64)) hx hb dX7_drift_1 rfl ?_
  refine lv_lconst (v := (lN 1)) hx hb dX7_drift_2 rfl ?_
  refine W.ldc2 (v := (60 : Int64)) hx hb hown (hts (.constantLong RX7 222 (60 : Int64)) (by decide +kernel)) rfl dX7_drift_3 ?_
  refine W.eq (g2 := F0 m 6 ls [.long (60 : Int64), .long (lN 1), .long ((x2).toInt64)]) rfl ?_
  obtain ⟨r6, hc6, hf⟩ := bd_e hf
  refine cl_z_ro (Wd := (wX7 G ad f)) (Wc := ([] : va_W)) [] rfl (va_runS (As := [.long ((x2).toInt64), .long (lN 1), .long (60 : Int64)]) (rest := []) hC (c_X7_in l G ((x2).toInt64) (lN 1) (60 : Int64) r6 hc6 _) (va_cwS 3 hts gX7_drift_X7_in rfl rfl rfl (by decide +kernel) ⟨Nat.le_of_ble_eq_true rfl, Nat.le_of_ble_eq_true rfl⟩) ⟨Pc0_blind, fun U hU hW => Pc0_at (Wd := ([] : va_W)) hE (hP.subm [] rfl) (hD.sub [] (by decide) rfl) hU hW⟩ rfl rfl hl.1 rfl (lv_room (Nat.le_of_ble_eq_true rfl)) dX7_drift_6 ⟨Nat.zero_le _, Nat.zero_le _⟩) hS hA hP hD (fun H locs hn6 hP hD hS => ?_)
  refine lv_if_eq (tgt := 22) hx hb dX7_drift_9 (by decide) (fun hc => ?_) (fun hc => ?_)
  · have hf := if_t hf hc
    refine lv_iconst (v := (-1 : Int32)) hx hb dX7_drift_22 (ic_m1) ?_
    have hK9 := K0_of hf hK
    exact hRet (-1 : Int32) f _ _ _ _ hK9 dX7_drift_23 hP hD hS
  · have hf := if_f hf hc
    refine lv_iload_n hx hb dX7_drift_12 rfl (lv_at hl 3 rfl) ?_
    refine lv_i2l (v := ((x3).toInt64)) hx hb dX7_drift_13 rfl ?_
    refine lv_lconst (v := (lN 0)) hx hb dX7_drift_14 rfl ?_
    refine lv_lconst (v := (lN 1)) hx hb dX7_drift_15 rfl ?_
    obtain ⟨r16, hc16, hf⟩ := bd_e hf
    refine cl_z_ro (Wd := (wX7 G ad f)) (Wc := ([] : va_W)) [] rfl (va_runS (As := [.long ((x3).toInt64), .long (lN 0), .long (lN 1)]) (rest := []) hC (c_X7_in l G ((x3).toInt64) (lN 0) (lN 1) r16 hc16 _) (va_cwS 3 hts gX7_drift_X7_in rfl rfl rfl (by decide +kernel) ⟨Nat.le_of_ble_eq_true rfl, Nat.le_of_ble_eq_true rfl⟩) ⟨Pc0_blind, fun U hU hW => Pc0_at (Wd := ([] : va_W)) hE (hP.subm [] rfl) (hD.sub [] (by decide) rfl) hU hW⟩ rfl rfl hl.1 rfl (lv_room (Nat.le_of_ble_eq_true rfl)) dX7_drift_16 ⟨Nat.zero_le _, Nat.zero_le _⟩) hS hA hP hD (fun H locs hn16 hP hD hS => ?_)
    refine lv_if_ne (tgt := 24) hx hb dX7_drift_19 (by decide) (fun hc => ?_) (fun hc => ?_)
    · have hf := if_f hf hc
      refine lv_aload_n hx hb dX7_drift_24 rfl (lv_at hl 0 rfl) ?_
      refine va_get (C := RX7) (T := TX7) (N := 34) (ci := 7) (v := .int (f 0 0)) hx hb hts inX7 hown hT hP 0 rfl rfl 1 (Nat.le_of_ble_eq_true rfl) lk128 (fun _ h => h) rfl dX7_drift_25 ?_
      refine lv_if_ne (tgt := 34) hx hb dX7_drift_28 (by decide) (fun hc => ?_) (fun hc => ?_)
      · have hf := if_f hf hc
        refine lv_aload_n hx hb dX7_drift_34 rfl (lv_at hl 0 rfl) ?_
        refine lv_iconst (v := (nI 0)) hx hb dX7_drift_35 (ic_0) ?_
        refine lv_sipush (v := (nI 240)) hx hb dX7_drift_36 (si_240) ?_
        obtain ⟨f_39, hc39, hf⟩ := bd_e hf
        refine cl_v_same (Wd := (wX7 G ad f)) (W' := (wX7 G ad f_39)) (va_runV (As := [.int (nI 0), .int (nI 240)]) (rest := []) hC (c_X7_copies l G ad f (nI 0) (nI 240) f_39 hc39 _) (cwV 2 hts gX7_drift_X7_copies rfl rfl rfl (by decide +kernel) ⟨Nat.le_of_ble_eq_true rfl, Nat.le_of_ble_eq_true rfl⟩) ⟨Pc0_blind, va_recv hT hP (q0 := 0) (ci := 7) rfl rfl, fun U hU hW => Pc0_at hE hP hD hU hW⟩ rfl rfl hl.1 rfl (lv_room (Nat.le_of_ble_eq_true rfl)) dX7_drift_39 ⟨Nat.zero_le _, Nat.zero_le _⟩) hS hA hD (fun H locs hP hD hS => ?_)
        refine lv_iload_n hx hb dX7_drift_42 rfl (lv_at hl 1 rfl) ?_
        refine lv_istore (lv' := [(4, .int x1), (0, .ref (ad 0)), (1, .int x1), (2, .int x2), (3, .int x3)]) hx hb dX7_drift_43 hl (by decide) rfl (fun ls hl => ?_)
        refine lv_iconst (v := (nI 0)) hx hb dX7_drift_45 (ic_0) ?_
        refine lv_istore (lv' := [(5, .int (nI 0)), (4, .int x1), (0, .ref (ad 0)), (1, .int x1), (2, .int x2), (3, .int x3)]) hx hb dX7_drift_46 hl (by decide) rfl (fun ls hl => ?_)
        refine lv_iconst (v := (nI 0)) hx hb dX7_drift_48 (ic_0) ?_
        refine lv_istore (lv' := [(6, .int (nI 0)), (5, .int (nI 0)), (4, .int x1), (0, .ref (ad 0)), (1, .int x1), (2, .int x2), (3, .int x3)]) hx hb dX7_drift_49 hl (by decide) rfl (fun ls hl => ?_)
        refine lv_iconst (v := (nI 0)) hx hb dX7_drift_51 (ic_0) ?_
        refine lv_istore (lv' := [(7, .int (nI 0)), (6, .int (nI 0)), (5, .int (nI 0)), (4, .int x1), (0, .ref (ad 0)), (1, .int x1), (2, .int x2), (3, .int x3)]) hx hb dX7_drift_52 hl (by decide) rfl (fun ls hl => ?_)
        obtain ⟨⟨y5_54, y6_54, f_54⟩, hlp, hf⟩ := bd_e hf
        refine lp_W1 (p_X7_drift_L54 x2 x3) (fun z => match z with | (x4, x5, x6, x7, f_) => ∀ (H : Heap) (locs : List Loc) (ls : Array Slot), va_P G.1 vwCl (wX7 G ad f_) H → va_D A (wX7 G ad f_) → va_S A s.heap H locs → lv_has ls 11 [(0, .ref (ad 0)), (2, .int x2), (3, .int x3), (4, .int x4), (5, .int x5), (6, .int x6), (7, .int x7)] → W p l e ({ frames := 5, cells := 0, slots := 0, locals := 108 }) s m args below meth c H locs 0 0 Q (F0 m 54 ls [])) (fun z => match z with | (y5_54, y6_54, f_54) => ∀ (H : Heap) (locs : List Loc) (ls : Array Slot), va_P G.1 vwCl (wX7 G ad f_54) H → va_D A (wX7 G ad f_54) → va_S A s.heap H locs → lv_has ls 11 [(3, .int x3), (5, .int y5_54), (6, .int y6_54)] → W p l e ({ frames := 5, cells := 0, slots := 0, locals := 108 }) s m args below meth c H locs 0 0 Q (F0 m 164 ls [])) ?_ hlp ?_ _ _ _ hP hD hS (lv_sub hl [4, 6, 7, 3, 2, 1, 0] rfl)
        · clear hlp hf hK hP hD hS hl
          intro K54 hW54 hX54 
          have hB145 : ∀ (f_ : Mem) (x4 : Int32) (x5 : Int32) (x6 : Int32) (x7 : Int32) (res : (Int32 × Int32 × Int32 × Int32 × Mem) ⊕ (Int32 × Int32 × Mem)) (hf : p_X7_drift_B145 f_ x2 x3 x4 x5 x6 x7 = some res) (hK : K54 res), ∀ (H : Heap) (locs : List Loc) (ls : Array Slot), va_P G.1 vwCl (wX7 G ad f_) H → va_D A (wX7 G ad f_) → va_S A s.heap H locs → lv_has ls 11 [(0, .ref (ad 0)), (2, .int x2), (3, .int x3), (4, .int x4), (5, .int x5), (6, .int x6), (7, .int x7)] → W p l e ({ frames := 5, cells := 0, slots := 0, locals := 108 }) s m args below meth c H locs 0 0 Q (F0 m 145 ls []) := by
            intro f_ x4 x5 x6 x7 res hf hK H locs ls hP hD hS hl
            unfold p_X7_drift_B145 at hf
            refine lv_iload hx hb dX7_drift_145 (lv_at hl 4 rfl) ?_
            refine lv_aload_n hx hb dX7_drift_147 rfl (lv_at hl 0 rfl) ?_
            refine lv_sipush (v := (nI 240)) hx hb dX7_drift_148 (si_240) ?_
            refine lv_iconst (v := (nI 1)) hx hb dX7_drift_151 (ic_1) ?_
            obtain ⟨⟨r152, f_152⟩, hc152, hf⟩ := bd_e hf
            try dsimp only at hf
            refine cl_i_same (Wd := (wX7 G ad f_)) (W' := (wX7 G ad f_152)) (va_runV (As := [.int (nI 240), .int (nI 1)]) (rest := [.int x5]) hC (c_X7_weekOn l G ad f_ (nI 240) (nI 1) r152 f_152 hc152 _) (cwV 2 hts gX7_drift_X7_weekOn rfl rfl rfl (by decide +kernel) ⟨Nat.le_of_ble_eq_true rfl, Nat.le_of_ble_eq_true rfl⟩) ⟨Pc0_blind, va_recv hT hP (q0 := 0) (ci := 7) rfl rfl, fun U hU hW => Pc0_at hE hP hD hU hW⟩ rfl rfl hl.1 rfl (lv_room (Nat.le_of_ble_eq_true rfl)) dX7_drift_152 ⟨Nat.zero_le _, Nat.zero_le _⟩) hS hA hD (fun H locs hP hD hS => ?_)
            refine lv_iadd hx hb dX7_drift_155 ?_
            refine lv_istore (lv' := [(5, .int (x5 + r152)), (0, .ref (ad 0)), (2, .int x2), (3, .int x3), (4, .int x4), (6, .int x6), (7, .int x7)]) hx hb dX7_drift_156 hl (by decide) rfl (fun ls hl => ?_)
            refine lv_iinc (v := (x7 + nI 1)) (lv' := [(7, .int (x7 + nI 1)), (5, .int (x5 + r152)), (0, .ref (ad 0)), (2, .int x2), (3, .int x3), (4, .int x4), (6, .int x6)]) hx hb dX7_drift_158 hl (k := 6) rfl (ii_x 1 _) (by decide) rfl (fun ls hl => ?_)
            refine lv_goto (tgt := 54) hx hb dX7_drift_161 (by decide) ?_
            have hK9 := K_of hf hK
            have hK9 := hW54 _ hK9
            exact hK9 _ _ _ hP hD hS (lv_sub hl [2, 3, 4, 5, 1, 6, 0] rfl)
          rintro ⟨x4, x5, x6, x7, f_⟩ res hf hK H locs ls hP hD hS hl
          unfold p_X7_drift_L54 at hf
          dsimp only at hf
          refine lv_iload hx hb dX7_drift_54 (lv_at hl 6 rfl) ?_
          refine lv_iload_n hx hb dX7_drift_56 rfl (lv_at hl 1 rfl) ?_
          refine lv_icmp_ge (tgt := 164) hx hb dX7_drift_57 (by decide) (fun hc => ?_) (fun hc => ?_)
          · have hf := if_t hf hc
            have hK9 := K_of hf hK
            have hK9 := hX54 _ hK9
            exact hK9 _ _ _ hP hD hS (lv_sub hl [2, 4, 5] rfl)
          · have hf := if_f hf hc
            refine lv_iload hx hb dX7_drift_60 (lv_at hl 3 rfl) ?_
            refine lv_ldcw (v := (1103515245 : Int32)) hx hb hown (hts (.constant RX7 289 (1103515245 : Int32)) (by decide +kernel)) dX7_drift_62 ?_
            refine lv_imul hx hb dX7_drift_65 ?_
            refine lv_sipush (v := (nI 12345)) hx hb dX7_drift_66 (si_12345) ?_
            refine lv_iadd hx hb dX7_drift_69 ?_
            refine lv_istore (lv' := [(4, .int ((x4 * (1103515245 : Int32)) + (nI 12345))), (0, .ref (ad 0)), (2, .int x2), (3, .int x3), (5, .int x5), (6, .int x6), (7, .int x7)]) hx hb dX7_drift_70 hl (by decide) rfl (fun ls hl => ?_)
            refine lv_iload hx hb dX7_drift_72 (lv_at hl 0 rfl) ?_
            refine lv_bipush (v := (nI 16)) hx hb dX7_drift_74 (bi_16) ?_
            refine lv_ishr hx hb dX7_drift_76 ?_
            refine lv_sipush (v := (nI 32767)) hx hb dX7_drift_77 (si_32767) ?_
            refine lv_iand hx hb dX7_drift_80 ?_
            refine lv_istore (lv' := [(8, .int ((((x4 * (1103515245 : Int32)) + (nI 12345)) >>> ((nI 16) &&& 31)) &&& (nI 32767))), (4, .int ((x4 * (1103515245 : Int32)) + (nI 12345))), (0, .ref (ad 0)), (2, .int x2), (3, .int x3), (5, .int x5), (6, .int x6), (7, .int x7)]) hx hb dX7_drift_81 hl (by decide) rfl (fun ls hl => ?_)
            refine lv_iload hx hb dX7_drift_83 (lv_at hl 0 rfl) ?_
            refine lv_iconst (v := (nI 4)) hx hb dX7_drift_85 (ic_4) ?_
            refine lv_idiv hx hb dX7_drift_86 (by decide) ?_
            refine lv_iconst (v := (nI 5)) hx hb dX7_drift_87 (ic_5) ?_
            refine lv_irem hx hb dX7_drift_88 (by decide) ?_
            refine lv_istore (lv' := [(9, .int ((((((x4 * (1103515245 : Int32)) + (nI 12345)) >>> ((nI 16) &&& 31)) &&& (nI 32767)) / (nI 4)) - (((((x4 * (1103515245 : Int32)) + (nI 12345)) >>> ((nI 16) &&& 31)) &&& (nI 32767)) / (nI 4)) / (nI 5) * (nI 5))), (8, .int ((((x4 * (1103515245 : Int32)) + (nI 12345)) >>> ((nI 16) &&& 31)) &&& (nI 32767))), (4, .int ((x4 * (1103515245 : Int32)) + (nI 12345))), (0, .ref (ad 0)), (2, .int x2), (3, .int x3), (5, .int x5), (6, .int x6), (7, .int x7)]) hx hb dX7_drift_89 hl (by decide) rfl (fun ls hl => ?_)
            refine lv_iload hx hb dX7_drift_91 (lv_at hl 1 rfl) ?_
            refine lv_bipush (v := (nI 32)) hx hb dX7_drift_93 (bi_32) ?_
            refine lv_idiv hx hb dX7_drift_95 (by decide) ?_
            refine lv_iconst (v := (nI 5)) hx hb dX7_drift_96 (ic_5) ?_
            refine lv_irem hx hb dX7_drift_97 (by decide) ?_
            refine lv_istore (lv' := [(10, .int ((((((x4 * (1103515245 : Int32)) + (nI 12345)) >>> ((nI 16) &&& 31)) &&& (nI 32767)) / (nI 32)) - (((((x4 * (1103515245 : Int32)) + (nI 12345)) >>> ((nI 16) &&& 31)) &&& (nI 32767)) / (nI 32)) / (nI 5) * (nI 5))), (9, .int ((((((x4 * (1103515245 : Int32)) + (nI 12345)) >>> ((nI 16) &&& 31)) &&& (nI 32767)) / (nI 4)) - (((((x4 * (1103515245 : Int32)) + (nI 12345)) >>> ((nI 16) &&& 31)) &&& (nI 32767)) / (nI 4)) / (nI 5) * (nI 5))), (8, .int ((((x4 * (1103515245 : Int32)) + (nI 12345)) >>> ((nI 16) &&& 31)) &&& (nI 32767))), (4, .int ((x4 * (1103515245 : Int32)) + (nI 12345))), (0, .ref (ad 0)), (2, .int x2), (3, .int x3), (5, .int x5), (6, .int x6), (7, .int x7)]) hx hb dX7_drift_98 hl (by decide) rfl (fun ls hl => ?_)
            refine lv_iload hx hb dX7_drift_100 (lv_at hl 1 rfl) ?_
            refine lv_iload hx hb dX7_drift_102 (lv_at hl 0 rfl) ?_
            refine lv_icmp_eq (tgt := 145) hx hb dX7_drift_104 (by decide) (fun hc => ?_) (fun hc => ?_)
            · have hf := if_t hf hc
              exact hB145 f_ ((x4 * (1103515245 : Int32)) + (nI 12345)) x5 x6 x7 _ hf hK _ _ _ hP hD hS (lv_sub hl [4, 5, 6, 3, 7, 8, 9] rfl)
            · have hf := if_f hf hc
              refine lv_aload_n hx hb dX7_drift_107 rfl (lv_at hl 4 rfl) ?_
              refine lv_sipush (v := (nI 240)) hx hb dX7_drift_108 (si_240) ?_
              refine lv_iload hx hb dX7_drift_111 (lv_at hl 1 rfl) ?_
              refine lv_iload hx hb dX7_drift_113 (lv_at hl 0 rfl) ?_
              refine lv_iload hx hb dX7_drift_115 (lv_at hl 2 rfl) ?_
              refine lv_aload_n hx hb dX7_drift_117 rfl (lv_at hl 4 rfl) ?_
              refine va_get (C := RX7) (T := TX7) (N := 34) (ci := 7) (v := .int (f_ 0 0)) hx hb hts inX7 hown hT hP 0 rfl rfl 1 (Nat.le_of_ble_eq_true rfl) lk128 (fun _ h => h) rfl dX7_drift_118 ?_
              obtain ⟨hg, hf⟩ := gd_e hf
              refine lv_irem hx hb dX7_drift_121 (nz_e hg) ?_
              refine lv_iconst (v := (nI 1)) hx hb dX7_drift_122 (ic_1) ?_
              refine lv_iload hx hb dX7_drift_123 (lv_at hl 2 rfl) ?_
              refine lv_sipush (v := (nI 256)) hx hb dX7_drift_125 (si_256) ?_
              refine lv_idiv hx hb dX7_drift_128 (by decide) ?_
              refine lv_bipush (v := (nI 9)) hx hb dX7_drift_129 (bi_9) ?_
              refine lv_irem hx hb dX7_drift_131 (by decide) ?_
              refine lv_iadd hx hb dX7_drift_132 ?_
              obtain ⟨⟨r133, f_133⟩, hc133, hf⟩ := bd_e hf
              try dsimp only at hf
              refine cl_z_same (Wd := (wX7 G ad f_)) (W' := (wX7 G ad f_133)) (va_runV (As := [.int (nI 240), .int ((((((x4 * (1103515245 : Int32)) + (nI 12345)) >>> ((nI 16) &&& 31)) &&& (nI 32767)) / (nI 4)) - (((((x4 * (1103515245 : Int32)) + (nI 12345)) >>> ((nI 16) &&& 31)) &&& (nI 32767)) / (nI 4)) / (nI 5) * (nI 5)), .int ((((((x4 * (1103515245 : Int32)) + (nI 12345)) >>> ((nI 16) &&& 31)) &&& (nI 32767)) / (nI 32)) - (((((x4 * (1103515245 : Int32)) + (nI 12345)) >>> ((nI 16) &&& 31)) &&& (nI 32767)) / (nI 32)) / (nI 5) * (nI 5)), .int (((((x4 * (1103515245 : Int32)) + (nI 12345)) >>> ((nI 16) &&& 31)) &&& (nI 32767)) - ((((x4 * (1103515245 : Int32)) + (nI 12345)) >>> ((nI 16) &&& 31)) &&& (nI 32767)) / (f_ 0 0) * (f_ 0 0)), .int ((nI 1) + ((((((x4 * (1103515245 : Int32)) + (nI 12345)) >>> ((nI 16) &&& 31)) &&& (nI 32767)) / (nI 256)) - (((((x4 * (1103515245 : Int32)) + (nI 12345)) >>> ((nI 16) &&& 31)) &&& (nI 32767)) / (nI 256)) / (nI 9) * (nI 9)))]) (rest := []) hC (c_X7_buysOn l G ad f_ (nI 240) ((((((x4 * (1103515245 : Int32)) + (nI 12345)) >>> ((nI 16) &&& 31)) &&& (nI 32767)) / (nI 4)) - (((((x4 * (1103515245 : Int32)) + (nI 12345)) >>> ((nI 16) &&& 31)) &&& (nI 32767)) / (nI 4)) / (nI 5) * (nI 5)) ((((((x4 * (1103515245 : Int32)) + (nI 12345)) >>> ((nI 16) &&& 31)) &&& (nI 32767)) / (nI 32)) - (((((x4 * (1103515245 : Int32)) + (nI 12345)) >>> ((nI 16) &&& 31)) &&& (nI 32767)) / (nI 32)) / (nI 5) * (nI 5)) (((((x4 * (1103515245 : Int32)) + (nI 12345)) >>> ((nI 16) &&& 31)) &&& (nI 32767)) - ((((x4 * (1103515245 : Int32)) + (nI 12345)) >>> ((nI 16) &&& 31)) &&& (nI 32767)) / (f_ 0 0) * (f_ 0 0)) ((nI 1) + ((((((x4 * (1103515245 : Int32)) + (nI 12345)) >>> ((nI 16) &&& 31)) &&& (nI 32767)) / (nI 256)) - (((((x4 * (1103515245 : Int32)) + (nI 12345)) >>> ((nI 16) &&& 31)) &&& (nI 32767)) / (nI 256)) / (nI 9) * (nI 9))) r133 f_133 hc133 _) (cwV 5 hts gX7_drift_X7_buysOn rfl rfl rfl (by decide +kernel) ⟨Nat.le_of_ble_eq_true rfl, Nat.le_of_ble_eq_true rfl⟩) ⟨Pc0_blind, va_recv hT hP (q0 := 0) (ci := 7) rfl rfl, fun U hU hW => Pc0_at hE hP hD hU hW⟩ rfl rfl hl.1 rfl (lv_room (Nat.le_of_ble_eq_true rfl)) dX7_drift_133 ⟨Nat.zero_le _, Nat.zero_le _⟩) hS hA hD (fun H locs hn133 hP hD hS => ?_)
              refine lv_if_eq (tgt := 145) hx hb dX7_drift_136 (by decide) (fun hc => ?_) (fun hc => ?_)
              · have hf := if_t hf hc
                exact hB145 f_133 ((x4 * (1103515245 : Int32)) + (nI 12345)) x5 x6 x7 _ hf hK _ _ _ hP hD hS (lv_sub hl [4, 5, 6, 3, 7, 8, 9] rfl)
              · have hf := if_f hf hc
                refine lv_iinc (v := (x6 + nI 1)) (lv' := [(6, .int (x6 + nI 1)), (10, .int ((((((x4 * (1103515245 : Int32)) + (nI 12345)) >>> ((nI 16) &&& 31)) &&& (nI 32767)) / (nI 32)) - (((((x4 * (1103515245 : Int32)) + (nI 12345)) >>> ((nI 16) &&& 31)) &&& (nI 32767)) / (nI 32)) / (nI 5) * (nI 5))), (9, .int ((((((x4 * (1103515245 : Int32)) + (nI 12345)) >>> ((nI 16) &&& 31)) &&& (nI 32767)) / (nI 4)) - (((((x4 * (1103515245 : Int32)) + (nI 12345)) >>> ((nI 16) &&& 31)) &&& (nI 32767)) / (nI 4)) / (nI 5) * (nI 5))), (8, .int ((((x4 * (1103515245 : Int32)) + (nI 12345)) >>> ((nI 16) &&& 31)) &&& (nI 32767))), (4, .int ((x4 * (1103515245 : Int32)) + (nI 12345))), (0, .ref (ad 0)), (2, .int x2), (3, .int x3), (5, .int x5), (7, .int x7)]) hx hb dX7_drift_139 hl (k := 8) rfl (ii_x 1 _) (by decide) rfl (fun ls hl => ?_)
                refine lv_goto (tgt := 158) hx hb dX7_drift_142 (by decide) ?_
                refine lv_iinc (v := (x7 + nI 1)) (lv' := [(7, .int (x7 + nI 1)), (6, .int (x6 + nI 1)), (10, .int ((((((x4 * (1103515245 : Int32)) + (nI 12345)) >>> ((nI 16) &&& 31)) &&& (nI 32767)) / (nI 32)) - (((((x4 * (1103515245 : Int32)) + (nI 12345)) >>> ((nI 16) &&& 31)) &&& (nI 32767)) / (nI 32)) / (nI 5) * (nI 5))), (9, .int ((((((x4 * (1103515245 : Int32)) + (nI 12345)) >>> ((nI 16) &&& 31)) &&& (nI 32767)) / (nI 4)) - (((((x4 * (1103515245 : Int32)) + (nI 12345)) >>> ((nI 16) &&& 31)) &&& (nI 32767)) / (nI 4)) / (nI 5) * (nI 5))), (8, .int ((((x4 * (1103515245 : Int32)) + (nI 12345)) >>> ((nI 16) &&& 31)) &&& (nI 32767))), (4, .int ((x4 * (1103515245 : Int32)) + (nI 12345))), (0, .ref (ad 0)), (2, .int x2), (3, .int x3), (5, .int x5)]) hx hb dX7_drift_158 hl (k := 9) rfl (ii_x 1 _) (by decide) rfl (fun ls hl => ?_)
                refine lv_goto (tgt := 54) hx hb dX7_drift_161 (by decide) ?_
                have hK9 := K_of hf hK
                have hK9 := hW54 _ hK9
                exact hK9 _ _ _ hP hD hS (lv_sub hl [6, 7, 8, 5, 9, 1, 0] rfl)
        · try dsimp only at hf
          show ∀ (H : Heap) (locs : List Loc) (ls : Array Slot), va_P G.1 vwCl (wX7 G ad f_54) H → va_D A (wX7 G ad f_54) → va_S A s.heap H locs → lv_has ls 11 [(3, .int x3), (5, .int y5_54), (6, .int y6_54)] → W p l e ({ frames := 5, cells := 0, slots := 0, locals := 108 }) s m args below meth c H locs 0 0 Q (F0 m 164 ls [])
          intro H locs ls hP hD hS hl
          refine lv_iload_n hx hb dX7_drift_164 rfl (lv_at hl 0 rfl) ?_
          refine lv_if_ne (tgt := 173) hx hb dX7_drift_165 (by decide) (fun hc => ?_) (fun hc => ?_)
          · have hf := if_f hf hc
            refine lv_iload hx hb dX7_drift_173 (lv_at hl 2 rfl) ?_
            have hK9 := K0_of hf hK
            exact hRet y6_54 f_54 _ _ _ _ hK9 dX7_drift_175 hP hD hS
          · have hf := if_t hf hc
            refine lv_iload hx hb dX7_drift_168 (lv_at hl 1 rfl) ?_
            refine lv_goto (tgt := 175) hx hb dX7_drift_170 (by decide) ?_
            have hK9 := K0_of hf hK
            exact hRet y5_54 f_54 _ _ _ _ hK9 dX7_drift_175 hP hD hS
      · have hf := if_t hf hc
        refine lv_bipush (v := (-2 : Int32)) hx hb dX7_drift_31 (bi_m2) ?_
        have hK9 := K0_of hf hK
        exact hRet (-2 : Int32) f _ _ _ _ hK9 dX7_drift_33 hP hD hS
    · have hf := if_t hf hc
      refine lv_iconst (v := (-1 : Int32)) hx hb dX7_drift_22 (ic_m1) ?_
      have hK9 := K0_of hf hK
      exact hRet (-1 : Int32) f _ _ _ _ hK9 dX7_drift_23 hP hD hS
noncomputable def p_X7_keep_B37 (f : Mem) (x1 : Int32) (s0 : Int32) : Option (Int32 × Mem) :=
  gd (inb x1 2) <|
  some (s0, (mrow 8 ((upd (f 8) x1.toNatClampNeg (nI 1))) f))
noncomputable def p_X7_keep (f : Mem) (x1 : Int32) : Option (Int32 × Mem) :=
  Option.bind (p_X7_in ((x1).toInt64) (lN 0) (lN 1)) <| fun r4 =>
  if r4 = 0 then
    (some ((-1 : Int32), f))
  else
    (Option.bind (p_X7_copies f (nI 0) ((nI 60) * (x1 + (nI 1)))) <| fun f_20 =>
     gd (inb x1 2) <|
     if (f_20 8 x1.toNatClampNeg) = 0 then
       (p_X7_keep_B37 f_20 x1 (nI 0))
     else
       (p_X7_keep_B37 f_20 x1 (nI 1)))
set_option maxHeartbeats 4000000 in
set_option maxRecDepth 100000 in
theorem c_X7_keep (l : Launch) (G : Gt) (ad : Nat → Nat) (f : Mem) (x1 : Int32) (r : Int32) (fz : Mem) (hf : p_X7_keep f x1 = some (r, fz)) (sz : Nat) : Met l yX7_keep wsX7_keep ({ frames := 2, cells := 0, slots := 0, locals := 37 }) (Pc0 G sz [.ref (ad 0), .int x1] (wX7 G ad f)) (Qi0 G (va_A (wX7 G ad f) sz) r (wX7 G ad fz)) 0 0 (va_A (wX7 G ad f) sz) := by
  refine metP (Qf := fun A => Qi0 G A r (wX7 G ad fz)) cX7_keep 3 (some .int) (by decide) rfl (Nat.le_of_ble_eq_true rfl) ?_
  intro p e s m below meth c A ls hC hr hlocks hin hE hA hsz hP hD hS hl
  generalize hargs : ([.ref (ad 0), .int x1] : List Value).toArray = args at hC ⊢
  obtain ⟨hx, hb, hml, hown, hts⟩ := id hC
  have hT : va_K G.1 vwCl (tyL G) s := hE.1
  have hRet : ∀ (r9 : Int32) (f9 : Mem) (H : Heap) (locs : List Loc) (ls : Array Slot) (pc : Nat) (hK9 : (r9, f9) = (r, fz)) (hdg : decode cX7_keep pc = .ok (.ireturn, 1)), va_P G.1 vwCl (wX7 G ad f9) H → va_D A (wX7 G ad f9) → va_S A s.heap H locs → W p l e ({ frames := 2, cells := 0, slots := 0, locals := 37 }) s m args below meth c H locs 0 0 (MQ below (Qi0 G A r (wX7 G ad fz)) args s 0 0 A) (F0 m pc ls [.int r9]) := by
    intro r9 f9 H locs ls pc hK9 hdg hP hD hS
    cases hK9
    exact W.iret hx hb hr (fun t ht hW => ⟨⟨r, (), rfl, rfl, by rw [ht]; exact hP, hD⟩, hS.F ht⟩) hS.2.2 hdg hlocks
  generalize MQ below (Qi0 G A r (wX7 G ad fz)) args s 0 0 A = Q at hRet ⊢
  have lk31 := hts (.fieldLink RX7 31 "FeatherSharesModel" "isKept" "[Z") (by decide +kernel)
  have inX7 : ∀ w ∈ u_ws RX7 TX7 34, w ∈ wsX7_keep := by decide +kernel
  have hl : lv_has ls 3 [(0, .ref (ad 0)), (1, .int x1)] := hl
  have hK0 : (r, fz) = (r, fz) := rfl
  have hB37 : ∀ (f : Mem) (x1 : Int32) (s0 : Int32) (res : Int32 × Mem) (hf : p_X7_keep_B37 f x1 s0 = some res) (hK : res = (r, fz)), ∀ (H : Heap) (locs : List Loc) (ls : Array Slot), va_P G.1 vwCl (wX7 G ad f) H → va_D A (wX7 G ad f) → va_S A s.heap H locs → lv_has ls 3 [(0, .ref (ad 0)), (1, .int x1)] → W p l e ({ frames := 2, cells := 0, slots := 0, locals := 37 }) s m args below meth c H locs 0 0 Q (F0 m 37 ls [.int s0]) := by
    intro f x1 s0 res hf hK H locs ls hP hD hS hl
    unfold p_X7_keep_B37 at hf
    refine lv_istore_n (lv' := [(2, .int s0), (0, .ref (ad 0)), (1, .int x1)]) hx hb dX7_keep_37 rfl hl (by decide) rfl (fun ls hl => ?_)
    refine lv_aload_n hx hb dX7_keep_38 rfl (lv_at hl 1 rfl) ?_
    refine va_get (C := RX7) (T := TX7) (N := 34) (ci := 7) (v := .ref (ad 8)) hx hb hts inX7 hown hT hP 0 rfl rfl 29 (Nat.le_of_ble_eq_true rfl) lk31 (fun _ h => h) rfl dX7_keep_39 ?_
    refine lv_iload_n hx hb dX7_keep_42 rfl (lv_at hl 2 rfl) ?_
    refine lv_iconst (v := (nI 1)) hx hb dX7_keep_43 (ic_1) ?_
    obtain ⟨hg, hf⟩ := gd_e hf
    refine va_zast (f := f 8) hx hb hT hP hD hS 8 1 rfl rfl (inb_e hg) dX7_keep_44 (fun H locs hP hD hS => ?_)
    have hP : va_P G.1 vwCl (wX7 G ad (mrow 8 ((upd (f 8) x1.toNatClampNeg (nI 1))) f)) H := hP
    have hD : va_D A (wX7 G ad (mrow 8 ((upd (f 8) x1.toNatClampNeg (nI 1))) f)) := hD
    refine lv_iload_n hx hb dX7_keep_45 rfl (lv_at hl 0 rfl) ?_
    have hK9 := K0_of hf hK
    exact hRet s0 (mrow 8 ((upd (f 8) x1.toNatClampNeg (nI 1))) f) _ _ _ _ hK9 dX7_keep_46 hP hD hS
  obtain ⟨res, hres, hK⟩ : ∃ res, p_X7_keep f x1 = some res ∧ res = (r, fz) := ⟨_, hf, rfl⟩
  clear hf
  have hf := hres
  clear hres
  unfold p_X7_keep at hf
  refine lv_iload_n hx hb dX7_keep_0 rfl (lv_at hl 1 rfl) ?_
  refine lv_i2l (v := ((x1).toInt64)) hx hb dX7_keep_1 rfl ?_
  refine lv_lconst (v := (lN 0)) hx hb dX7_keep_2 rfl ?_
  refine lv_lconst (v := (lN 1)) hx hb dX7_keep_3 rfl ?_
  obtain ⟨r4, hc4, hf⟩ := bd_e hf
  refine cl_z_ro (Wd := (wX7 G ad f)) (Wc := ([] : va_W)) [] rfl (va_runS (As := [.long ((x1).toInt64), .long (lN 0), .long (lN 1)]) (rest := []) hC (c_X7_in l G ((x1).toInt64) (lN 0) (lN 1) r4 hc4 _) (va_cwS 3 hts gX7_keep_X7_in rfl rfl rfl (by decide +kernel) ⟨Nat.le_of_ble_eq_true rfl, Nat.le_of_ble_eq_true rfl⟩) ⟨Pc0_blind, fun U hU hW => Pc0_at (Wd := ([] : va_W)) hE (hP.subm [] rfl) (hD.sub [] (by decide) rfl) hU hW⟩ rfl rfl hl.1 rfl (lv_room (Nat.le_of_ble_eq_true rfl)) dX7_keep_4 ⟨Nat.zero_le _, Nat.zero_le _⟩) hS hA hP hD (fun H locs hn4 hP hD hS => ?_)
  refine lv_if_ne (tgt := 12) hx hb dX7_keep_7 (by decide) (fun hc => ?_) (fun hc => ?_)
  · have hf := if_f hf hc
    refine lv_aload_n hx hb dX7_keep_12 rfl (lv_at hl 0 rfl) ?_
    refine lv_iconst (v := (nI 0)) hx hb dX7_keep_13 (ic_0) ?_
    refine lv_bipush (v := (nI 60)) hx hb dX7_keep_14 (bi_60) ?_
    refine lv_iload_n hx hb dX7_keep_16 rfl (lv_at hl 1 rfl) ?_
    refine lv_iconst (v := (nI 1)) hx hb dX7_keep_17 (ic_1) ?_
    refine lv_iadd hx hb dX7_keep_18 ?_
    refine lv_imul hx hb dX7_keep_19 ?_
    obtain ⟨f_20, hc20, hf⟩ := bd_e hf
    refine cl_v_same (Wd := (wX7 G ad f)) (W' := (wX7 G ad f_20)) (va_runV (As := [.int (nI 0), .int ((nI 60) * (x1 + (nI 1)))]) (rest := []) hC (c_X7_copies l G ad f (nI 0) ((nI 60) * (x1 + (nI 1))) f_20 hc20 _) (cwV 2 hts gX7_keep_X7_copies rfl rfl rfl (by decide +kernel) ⟨Nat.le_of_ble_eq_true rfl, Nat.le_of_ble_eq_true rfl⟩) ⟨Pc0_blind, va_recv hT hP (q0 := 0) (ci := 7) rfl rfl, fun U hU hW => Pc0_at hE hP hD hU hW⟩ rfl rfl hl.1 rfl (lv_room (Nat.le_of_ble_eq_true rfl)) dX7_keep_20 ⟨Nat.zero_le _, Nat.zero_le _⟩) hS hA hD (fun H locs hP hD hS => ?_)
    refine lv_aload_n hx hb dX7_keep_23 rfl (lv_at hl 0 rfl) ?_
    refine va_get (C := RX7) (T := TX7) (N := 34) (ci := 7) (v := .ref (ad 8)) hx hb hts inX7 hown hT hP 0 rfl rfl 29 (Nat.le_of_ble_eq_true rfl) lk31 (fun _ h => h) rfl dX7_keep_24 ?_
    refine lv_iload_n hx hb dX7_keep_27 rfl (lv_at hl 1 rfl) ?_
    obtain ⟨hg, hf⟩ := gd_e hf
    refine va_zald (f := f_20 8) hx hb hT hP 8 1 rfl rfl (inb_e hg) dX7_keep_28 ?_
    refine lv_if_eq (tgt := 36) hx hb dX7_keep_29 (by decide) (fun hc => ?_) (fun hc => ?_)
    · have hf := if_t hf hc
      refine lv_iconst (v := (nI 0)) hx hb dX7_keep_36 (ic_0) ?_
      exact hB37 f_20 x1 (nI 0) _ hf hK _ _ _ hP hD hS (lv_sub hl [0, 1] rfl)
    · have hf := if_f hf hc
      refine lv_iconst (v := (nI 1)) hx hb dX7_keep_32 (ic_1) ?_
      refine lv_goto (tgt := 37) hx hb dX7_keep_33 (by decide) ?_
      exact hB37 f_20 x1 (nI 1) _ hf hK _ _ _ hP hD hS (lv_sub hl [0, 1] rfl)
  · have hf := if_t hf hc
    refine lv_iconst (v := (-1 : Int32)) hx hb dX7_keep_10 (ic_m1) ?_
    have hK9 := K0_of hf hK
    exact hRet (-1 : Int32) f _ _ _ _ hK9 dX7_keep_11 hP hD hS
noncomputable def p_X7_back (f : Mem) (x1 : Int32) : Option (Int32 × Mem) :=
  Option.bind (p_X7_in ((x1).toInt64) (lN 0) (lN 1)) <| fun r4 =>
  if r4 = 0 then
    (some ((-1 : Int32), f))
  else
    (gd (inb x1 2) <|
     if (f 8 x1.toNatClampNeg) = 0 then
       (some ((-2 : Int32), f))
     else
       (Option.bind (p_X7_copies f ((nI 60) * (x1 + (nI 1))) (nI 0)) <| fun f_32 =>
        gd (inb (nI 34) 360) <|
        some ((f_32 1 (nI 34).toNatClampNeg), f_32)))
set_option maxHeartbeats 4000000 in
set_option maxRecDepth 100000 in
theorem c_X7_back (l : Launch) (G : Gt) (ad : Nat → Nat) (f : Mem) (x1 : Int32) (r : Int32) (fz : Mem) (hf : p_X7_back f x1 = some (r, fz)) (sz : Nat) : Met l yX7_back wsX7_back ({ frames := 2, cells := 0, slots := 0, locals := 37 }) (Pc0 G sz [.ref (ad 0), .int x1] (wX7 G ad f)) (Qi0 G (va_A (wX7 G ad f) sz) r (wX7 G ad fz)) 0 0 (va_A (wX7 G ad f) sz) := by
  refine metP (Qf := fun A => Qi0 G A r (wX7 G ad fz)) cX7_back 2 (some .int) (by decide) rfl (Nat.le_of_ble_eq_true rfl) ?_
  intro p e s m below meth c A ls hC hr hlocks hin hE hA hsz hP hD hS hl
  generalize hargs : ([.ref (ad 0), .int x1] : List Value).toArray = args at hC ⊢
  obtain ⟨hx, hb, hml, hown, hts⟩ := id hC
  have hT : va_K G.1 vwCl (tyL G) s := hE.1
  have hRet : ∀ (r9 : Int32) (f9 : Mem) (H : Heap) (locs : List Loc) (ls : Array Slot) (pc : Nat) (hK9 : (r9, f9) = (r, fz)) (hdg : decode cX7_back pc = .ok (.ireturn, 1)), va_P G.1 vwCl (wX7 G ad f9) H → va_D A (wX7 G ad f9) → va_S A s.heap H locs → W p l e ({ frames := 2, cells := 0, slots := 0, locals := 37 }) s m args below meth c H locs 0 0 (MQ below (Qi0 G A r (wX7 G ad fz)) args s 0 0 A) (F0 m pc ls [.int r9]) := by
    intro r9 f9 H locs ls pc hK9 hdg hP hD hS
    cases hK9
    exact W.iret hx hb hr (fun t ht hW => ⟨⟨r, (), rfl, rfl, by rw [ht]; exact hP, hD⟩, hS.F ht⟩) hS.2.2 hdg hlocks
  generalize MQ below (Qi0 G A r (wX7 G ad fz)) args s 0 0 A = Q at hRet ⊢
  have lk31 := hts (.fieldLink RX7 31 "FeatherSharesModel" "isKept" "[Z") (by decide +kernel)
  have inX7 : ∀ w ∈ u_ws RX7 TX7 34, w ∈ wsX7_back := by decide +kernel
  have lk7 := hts (.fieldLink RX7 7 "FeatherSharesModel" "state" "[I") (by decide +kernel)
  have hl : lv_has ls 2 [(0, .ref (ad 0)), (1, .int x1)] := hl
  have hK0 : (r, fz) = (r, fz) := rfl
  obtain ⟨res, hres, hK⟩ : ∃ res, p_X7_back f x1 = some res ∧ res = (r, fz) := ⟨_, hf, rfl⟩
  clear hf
  have hf := hres
  clear hres
  unfold p_X7_back at hf
  refine lv_iload_n hx hb dX7_back_0 rfl (lv_at hl 1 rfl) ?_
  refine lv_i2l (v := ((x1).toInt64)) hx hb dX7_back_1 rfl ?_
  refine lv_lconst (v := (lN 0)) hx hb dX7_back_2 rfl ?_
  refine lv_lconst (v := (lN 1)) hx hb dX7_back_3 rfl ?_
  obtain ⟨r4, hc4, hf⟩ := bd_e hf
  refine cl_z_ro (Wd := (wX7 G ad f)) (Wc := ([] : va_W)) [] rfl (va_runS (As := [.long ((x1).toInt64), .long (lN 0), .long (lN 1)]) (rest := []) hC (c_X7_in l G ((x1).toInt64) (lN 0) (lN 1) r4 hc4 _) (va_cwS 3 hts gX7_back_X7_in rfl rfl rfl (by decide +kernel) ⟨Nat.le_of_ble_eq_true rfl, Nat.le_of_ble_eq_true rfl⟩) ⟨Pc0_blind, fun U hU hW => Pc0_at (Wd := ([] : va_W)) hE (hP.subm [] rfl) (hD.sub [] (by decide) rfl) hU hW⟩ rfl rfl hl.1 rfl (lv_room (Nat.le_of_ble_eq_true rfl)) dX7_back_4 ⟨Nat.zero_le _, Nat.zero_le _⟩) hS hA hP hD (fun H locs hn4 hP hD hS => ?_)
  refine lv_if_ne (tgt := 12) hx hb dX7_back_7 (by decide) (fun hc => ?_) (fun hc => ?_)
  · have hf := if_f hf hc
    refine lv_aload_n hx hb dX7_back_12 rfl (lv_at hl 0 rfl) ?_
    refine va_get (C := RX7) (T := TX7) (N := 34) (ci := 7) (v := .ref (ad 8)) hx hb hts inX7 hown hT hP 0 rfl rfl 29 (Nat.le_of_ble_eq_true rfl) lk31 (fun _ h => h) rfl dX7_back_13 ?_
    refine lv_iload_n hx hb dX7_back_16 rfl (lv_at hl 1 rfl) ?_
    obtain ⟨hg, hf⟩ := gd_e hf
    refine va_zald (f := f 8) hx hb hT hP 8 1 rfl rfl (inb_e hg) dX7_back_17 ?_
    refine lv_if_ne (tgt := 24) hx hb dX7_back_18 (by decide) (fun hc => ?_) (fun hc => ?_)
    · have hf := if_f hf hc
      refine lv_aload_n hx hb dX7_back_24 rfl (lv_at hl 0 rfl) ?_
      refine lv_bipush (v := (nI 60)) hx hb dX7_back_25 (bi_60) ?_
      refine lv_iload_n hx hb dX7_back_27 rfl (lv_at hl 1 rfl) ?_
      refine lv_iconst (v := (nI 1)) hx hb dX7_back_28 (ic_1) ?_
      refine lv_iadd hx hb dX7_back_29 ?_
      refine lv_imul hx hb dX7_back_30 ?_
      refine lv_iconst (v := (nI 0)) hx hb dX7_back_31 (ic_0) ?_
      obtain ⟨f_32, hc32, hf⟩ := bd_e hf
      refine cl_v_same (Wd := (wX7 G ad f)) (W' := (wX7 G ad f_32)) (va_runV (As := [.int ((nI 60) * (x1 + (nI 1))), .int (nI 0)]) (rest := []) hC (c_X7_copies l G ad f ((nI 60) * (x1 + (nI 1))) (nI 0) f_32 hc32 _) (cwV 2 hts gX7_back_X7_copies rfl rfl rfl (by decide +kernel) ⟨Nat.le_of_ble_eq_true rfl, Nat.le_of_ble_eq_true rfl⟩) ⟨Pc0_blind, va_recv hT hP (q0 := 0) (ci := 7) rfl rfl, fun U hU hW => Pc0_at hE hP hD hU hW⟩ rfl rfl hl.1 rfl (lv_room (Nat.le_of_ble_eq_true rfl)) dX7_back_32 ⟨Nat.zero_le _, Nat.zero_le _⟩) hS hA hD (fun H locs hP hD hS => ?_)
      refine lv_aload_n hx hb dX7_back_35 rfl (lv_at hl 0 rfl) ?_
      refine va_get (C := RX7) (T := TX7) (N := 34) (ci := 7) (v := .ref (ad 1)) hx hb hts inX7 hown hT hP 0 rfl rfl 0 (Nat.le_of_ble_eq_true rfl) lk7 (fun _ h => h) rfl dX7_back_36 ?_
      refine lv_bipush (v := (nI 34)) hx hb dX7_back_39 (bi_34) ?_
      obtain ⟨hg, hf⟩ := gd_e hf
      refine va_iald (f := f_32 1) hx hb hT hP 1 0 rfl rfl (inb_e hg) dX7_back_41 ?_
      have hK9 := K0_of hf hK
      exact hRet (f_32 1 (nI 34).toNatClampNeg) f_32 _ _ _ _ hK9 dX7_back_42 hP hD hS
    · have hf := if_t hf hc
      refine lv_bipush (v := (-2 : Int32)) hx hb dX7_back_21 (bi_m2) ?_
      have hK9 := K0_of hf hK
      exact hRet (-2 : Int32) f _ _ _ _ hK9 dX7_back_23 hP hD hS
  · have hf := if_t hf hc
    refine lv_iconst (v := (-1 : Int32)) hx hb dX7_back_10 (ic_m1) ?_
    have hK9 := K0_of hf hK
    exact hRet (-1 : Int32) f _ _ _ _ hK9 dX7_back_11 hP hD hS
noncomputable def p_X7_sheet_L56 (x1 : Int32) (z : Int32 × Mem) : Option ((Int32 × Mem) ⊕ Mem) :=
  match z with
  | (x4, f_) =>
    if (nI 40) ≤ x4 then
      (some (Sum.inr f_))
    else
      (gd (inb (((nI 40) * x1) + x4) 160) <|
       bnd (upd (f_ 11) (((nI 40) * x1) + x4).toNatClampNeg (nI 0)) <| fun g75 =>
       some (Sum.inl ((x4 + nI 1), (mrow 11 (g75) f_))))
noncomputable def p_X7_sheet (f : Mem) (x1 : Int32) (x2 : Int32) (x3 : Int32) : Option (Int32 × Mem) :=
  Option.bind (p_X7_in ((x1).toInt64) (lN 0) (3 : Int64)) <| fun r6 =>
  if r6 = 0 then
    (some ((-1 : Int32), f))
  else
    (Option.bind (p_X7_in ((x2).toInt64) (lN 0) (2 : Int64)) <| fun r18 =>
     if r18 = 0 then
       (some ((-1 : Int32), f))
     else
       (if x3 ≤ (nI 40) then
          (if 0 ≤ x3 then
             (gd (inb x1 4) <|
              bnd (upd (f 9) x1.toNatClampNeg x2) <| fun g45 =>
              gd (inb x1 4) <|
              bnd (upd (f 10) x1.toNatClampNeg x3) <| fun g52 =>
              Option.bind (lp (p_X7_sheet_L56 x1) ((nI 0), (mrow 10 (g52) (mrow 9 (g45) f)))) <| fun f_56 =>
              some ((nI 1), f_56))
           else
             (some ((-14 : Int32), f)))
        else
          (some ((-1 : Int32), f))))
set_option maxHeartbeats 4000000 in
set_option maxRecDepth 100000 in
theorem c_X7_sheet (l : Launch) (G : Gt) (ad : Nat → Nat) (f : Mem) (x1 : Int32) (x2 : Int32) (x3 : Int32) (r : Int32) (fz : Mem) (hf : p_X7_sheet f x1 x2 x3 = some (r, fz)) (sz : Nat) : Met l yX7_sheet wsX7_sheet ({ frames := 2, cells := 0, slots := 0, locals := 37 }) (Pc0 G sz [.ref (ad 0), .int x1, .int x2, .int x3] (wX7 G ad f)) (Qi0 G (va_A (wX7 G ad f) sz) r (wX7 G ad fz)) 0 0 (va_A (wX7 G ad f) sz) := by
  refine metP (Qf := fun A => Qi0 G A r (wX7 G ad fz)) cX7_sheet 5 (some .int) (by decide) rfl (Nat.le_of_ble_eq_true rfl) ?_
  intro p e s m below meth c A ls hC hr hlocks hin hE hA hsz hP hD hS hl
  generalize hargs : ([.ref (ad 0), .int x1, .int x2, .int x3] : List Value).toArray = args at hC ⊢
  obtain ⟨hx, hb, hml, hown, hts⟩ := id hC
  have hT : va_K G.1 vwCl (tyL G) s := hE.1
  have hRet : ∀ (r9 : Int32) (f9 : Mem) (H : Heap) (locs : List Loc) (ls : Array Slot) (pc : Nat) (hK9 : (r9, f9) = (r, fz)) (hdg : decode cX7_sheet pc = .ok (.ireturn, 1)), va_P G.1 vwCl (wX7 G ad f9) H → va_D A (wX7 G ad f9) → va_S A s.heap H locs → W p l e ({ frames := 2, cells := 0, slots := 0, locals := 37 }) s m args below meth c H locs 0 0 (MQ below (Qi0 G A r (wX7 G ad fz)) args s 0 0 A) (F0 m pc ls [.int r9]) := by
    intro r9 f9 H locs ls pc hK9 hdg hP hD hS
    cases hK9
    exact W.iret hx hb hr (fun t ht hW => ⟨⟨r, (), rfl, rfl, by rw [ht]; exact hP, hD⟩, hS.F ht⟩) hS.2.2 hdg hlocks
  generalize MQ below (Qi0 G A r (wX7 G ad fz)) args s 0 0 A = Q at hRet ⊢
  have lk35 := hts (.fieldLink RX7 35 "FeatherSharesModel" "lanes" "[I") (by decide +kernel)
  have inX7 : ∀ w ∈ u_ws RX7 TX7 34, w ∈ wsX7_sheet := by decide +kernel
  have lk38 := hts (.fieldLink RX7 38 "FeatherSharesModel" "lengths" "[I") (by decide +kernel)
  have lk41 := hts (.fieldLink RX7 41 "FeatherSharesModel" "cells" "[I") (by decide +kernel)
  have hl : lv_has ls 5 [(0, .ref (ad 0)), (1, .int x1), (2, .int x2), (3, .int x3)] := hl
  have hK0 : (r, fz) = (r, fz) := rfl
  obtain ⟨res, hres, hK⟩ : ∃ res, p_X7_sheet f x1 x2 x3 = some res ∧ res = (r, fz) := ⟨_, hf, rfl⟩
  clear hf
  have hf := hres
  clear hres
  unfold p_X7_sheet at hf
  refine lv_iload_n hx hb dX7_sheet_0 rfl (lv_at hl 1 rfl) ?_
  refine lv_i2l (v := ((x1).toInt64)) hx hb dX7_sheet_1 rfl ?_
  refine lv_lconst (v := (lN 0)) hx hb dX7_sheet_2 rfl ?_
  refine W.ldc2 (v := (3 : Int64)) hx hb hown (hts (.constantLong RX7 169 (3 : Int64)) (by decide +kernel)) rfl dX7_sheet_3 ?_
  refine W.eq (g2 := F0 m 6 ls [.long (3 : Int64), .long (lN 0), .long ((x1).toInt64)]) rfl ?_
  obtain ⟨r6, hc6, hf⟩ := bd_e hf
  refine cl_z_ro (Wd := (wX7 G ad f)) (Wc := ([] : va_W)) [] rfl (va_runS (As := [.long ((x1).toInt64), .long (lN 0), .long (3 : Int64)]) (rest := []) hC (c_X7_in l G ((x1).toInt64) (lN 0) (3 : Int64) r6 hc6 _) (va_cwS 3 hts gX7_sheet_X7_in rfl rfl rfl (by decide +kernel) ⟨Nat.le_of_ble_eq_true rfl, Nat.le_of_ble_eq_true rfl⟩) ⟨Pc0_blind, fun U hU hW => Pc0_at (Wd := ([] : va_W)) hE (hP.subm [] rfl) (hD.sub [] (by decide) rfl) hU hW⟩ rfl rfl hl.1 rfl (lv_room (Nat.le_of_ble_eq_true rfl)) dX7_sheet_6 ⟨Nat.zero_le _, Nat.zero_le _⟩) hS hA hP hD (fun H locs hn6 hP hD hS => ?_)
  refine lv_if_eq (tgt := 30) hx hb dX7_sheet_9 (by decide) (fun hc => ?_) (fun hc => ?_)
  · have hf := if_t hf hc
    refine lv_iconst (v := (-1 : Int32)) hx hb dX7_sheet_30 (ic_m1) ?_
    have hK9 := K0_of hf hK
    exact hRet (-1 : Int32) f _ _ _ _ hK9 dX7_sheet_31 hP hD hS
  · have hf := if_f hf hc
    refine lv_iload_n hx hb dX7_sheet_12 rfl (lv_at hl 2 rfl) ?_
    refine lv_i2l (v := ((x2).toInt64)) hx hb dX7_sheet_13 rfl ?_
    refine lv_lconst (v := (lN 0)) hx hb dX7_sheet_14 rfl ?_
    refine W.ldc2 (v := (2 : Int64)) hx hb hown (hts (.constantLong RX7 217 (2 : Int64)) (by decide +kernel)) rfl dX7_sheet_15 ?_
    refine W.eq (g2 := F0 m 18 ls [.long (2 : Int64), .long (lN 0), .long ((x2).toInt64)]) rfl ?_
    obtain ⟨r18, hc18, hf⟩ := bd_e hf
    refine cl_z_ro (Wd := (wX7 G ad f)) (Wc := ([] : va_W)) [] rfl (va_runS (As := [.long ((x2).toInt64), .long (lN 0), .long (2 : Int64)]) (rest := []) hC (c_X7_in l G ((x2).toInt64) (lN 0) (2 : Int64) r18 hc18 _) (va_cwS 3 hts gX7_sheet_X7_in rfl rfl rfl (by decide +kernel) ⟨Nat.le_of_ble_eq_true rfl, Nat.le_of_ble_eq_true rfl⟩) ⟨Pc0_blind, fun U hU hW => Pc0_at (Wd := ([] : va_W)) hE (hP.subm [] rfl) (hD.sub [] (by decide) rfl) hU hW⟩ rfl rfl hl.1 rfl (lv_room (Nat.le_of_ble_eq_true rfl)) dX7_sheet_18 ⟨Nat.zero_le _, Nat.zero_le _⟩) hS hA hP hD (fun H locs hn18 hP hD hS => ?_)
    refine lv_if_eq (tgt := 30) hx hb dX7_sheet_21 (by decide) (fun hc => ?_) (fun hc => ?_)
    · have hf := if_t hf hc
      refine lv_iconst (v := (-1 : Int32)) hx hb dX7_sheet_30 (ic_m1) ?_
      have hK9 := K0_of hf hK
      exact hRet (-1 : Int32) f _ _ _ _ hK9 dX7_sheet_31 hP hD hS
    · have hf := if_f hf hc
      refine lv_iload_n hx hb dX7_sheet_24 rfl (lv_at hl 3 rfl) ?_
      refine lv_bipush (v := (nI 40)) hx hb dX7_sheet_25 (bi_40) ?_
      refine lv_icmp_le (tgt := 32) hx hb dX7_sheet_27 (by decide) (fun hc => ?_) (fun hc => ?_)
      · have hf := if_t hf hc
        refine lv_iload_n hx hb dX7_sheet_32 rfl (lv_at hl 3 rfl) ?_
        refine lv_if_ge (tgt := 39) hx hb dX7_sheet_33 (by decide) (fun hc => ?_) (fun hc => ?_)
        · have hf := if_t hf hc
          refine lv_aload_n hx hb dX7_sheet_39 rfl (lv_at hl 0 rfl) ?_
          refine va_get (C := RX7) (T := TX7) (N := 34) (ci := 7) (v := .ref (ad 9)) hx hb hts inX7 hown hT hP 0 rfl rfl 30 (Nat.le_of_ble_eq_true rfl) lk35 (fun _ h => h) rfl dX7_sheet_40 ?_
          refine lv_iload_n hx hb dX7_sheet_43 rfl (lv_at hl 1 rfl) ?_
          refine lv_iload_n hx hb dX7_sheet_44 rfl (lv_at hl 2 rfl) ?_
          obtain ⟨hg, hf⟩ := gd_e hf
          obtain ⟨g45, eg45, hf⟩ := bnd_e hf
          refine va_iast (f := f 9) hx hb hT hP hD hS 9 0 rfl rfl (inb_e hg) dX7_sheet_45 (fun H locs hP hD hS => ?_)
          rw [← eg45] at hP hD
          have hP : va_P G.1 vwCl (wX7 G ad (mrow 9 (g45) f)) H := hP
          have hD : va_D A (wX7 G ad (mrow 9 (g45) f)) := hD
          refine lv_aload_n hx hb dX7_sheet_46 rfl (lv_at hl 0 rfl) ?_
          refine va_get (C := RX7) (T := TX7) (N := 34) (ci := 7) (v := .ref (ad 10)) hx hb hts inX7 hown hT hP 0 rfl rfl 31 (Nat.le_of_ble_eq_true rfl) lk38 (fun _ h => h) rfl dX7_sheet_47 ?_
          refine lv_iload_n hx hb dX7_sheet_50 rfl (lv_at hl 1 rfl) ?_
          refine lv_iload_n hx hb dX7_sheet_51 rfl (lv_at hl 3 rfl) ?_
          obtain ⟨hg, hf⟩ := gd_e hf
          obtain ⟨g52, eg52, hf⟩ := bnd_e hf
          refine va_iast (f := f 10) hx hb hT hP hD hS 10 0 rfl rfl (inb_e hg) dX7_sheet_52 (fun H locs hP hD hS => ?_)
          rw [← eg52] at hP hD
          have hP : va_P G.1 vwCl (wX7 G ad (mrow 10 (g52) (mrow 9 (g45) f))) H := hP
          have hD : va_D A (wX7 G ad (mrow 10 (g52) (mrow 9 (g45) f))) := hD
          refine lv_iconst (v := (nI 0)) hx hb dX7_sheet_53 (ic_0) ?_
          refine lv_istore (lv' := [(4, .int (nI 0)), (0, .ref (ad 0)), (1, .int x1), (2, .int x2), (3, .int x3)]) hx hb dX7_sheet_54 hl (by decide) rfl (fun ls hl => ?_)
          obtain ⟨f_56, hlp, hf⟩ := bd_e hf
          refine lp_W1 (p_X7_sheet_L56 x1) (fun z => match z with | (x4, f_) => ∀ (H : Heap) (locs : List Loc) (ls : Array Slot), va_P G.1 vwCl (wX7 G ad f_) H → va_D A (wX7 G ad f_) → va_S A s.heap H locs → lv_has ls 5 [(0, .ref (ad 0)), (1, .int x1), (4, .int x4)] → W p l e ({ frames := 2, cells := 0, slots := 0, locals := 37 }) s m args below meth c H locs 0 0 Q (F0 m 56 ls [])) (fun (f_56 : Mem) => ∀ (H : Heap) (locs : List Loc) (ls : Array Slot), va_P G.1 vwCl (wX7 G ad f_56) H → va_D A (wX7 G ad f_56) → va_S A s.heap H locs → lv_has ls 5 [] → W p l e ({ frames := 2, cells := 0, slots := 0, locals := 37 }) s m args below meth c H locs 0 0 Q (F0 m 82 ls [])) ?_ hlp ?_ _ _ _ hP hD hS (lv_sub hl [1, 2, 0] rfl)
          · clear hlp hf hK hP hD hS hl
            intro K56 hW56 hX56 
            rintro ⟨x4, f_⟩ res hf hK H locs ls hP hD hS hl
            unfold p_X7_sheet_L56 at hf
            dsimp only at hf
            refine lv_iload hx hb dX7_sheet_56 (lv_at hl 2 rfl) ?_
            refine lv_bipush (v := (nI 40)) hx hb dX7_sheet_58 (bi_40) ?_
            refine lv_icmp_ge (tgt := 82) hx hb dX7_sheet_60 (by decide) (fun hc => ?_) (fun hc => ?_)
            · have hf := if_t hf hc
              have hK9 := K_of hf hK
              have hK9 := hX56 _ hK9
              exact hK9 _ _ _ hP hD hS (lv_sub hl [] rfl)
            · have hf := if_f hf hc
              refine lv_aload_n hx hb dX7_sheet_63 rfl (lv_at hl 0 rfl) ?_
              refine va_get (C := RX7) (T := TX7) (N := 34) (ci := 7) (v := .ref (ad 11)) hx hb hts inX7 hown hT hP 0 rfl rfl 32 (Nat.le_of_ble_eq_true rfl) lk41 (fun _ h => h) rfl dX7_sheet_64 ?_
              refine lv_bipush (v := (nI 40)) hx hb dX7_sheet_67 (bi_40) ?_
              refine lv_iload_n hx hb dX7_sheet_69 rfl (lv_at hl 1 rfl) ?_
              refine lv_imul hx hb dX7_sheet_70 ?_
              refine lv_iload hx hb dX7_sheet_71 (lv_at hl 2 rfl) ?_
              refine lv_iadd hx hb dX7_sheet_73 ?_
              refine lv_iconst (v := (nI 0)) hx hb dX7_sheet_74 (ic_0) ?_
              obtain ⟨hg, hf⟩ := gd_e hf
              obtain ⟨g75, eg75, hf⟩ := bnd_e hf
              refine va_iast (f := f_ 11) hx hb hT hP hD hS 11 0 rfl rfl (inb_e hg) dX7_sheet_75 (fun H locs hP hD hS => ?_)
              rw [← eg75] at hP hD
              have hP : va_P G.1 vwCl (wX7 G ad (mrow 11 (g75) f_)) H := hP
              have hD : va_D A (wX7 G ad (mrow 11 (g75) f_)) := hD
              refine lv_iinc (v := (x4 + nI 1)) (lv' := [(4, .int (x4 + nI 1)), (0, .ref (ad 0)), (1, .int x1)]) hx hb dX7_sheet_76 hl (k := 2) rfl (ii_x 1 _) (by decide) rfl (fun ls hl => ?_)
              refine lv_goto (tgt := 56) hx hb dX7_sheet_79 (by decide) ?_
              have hK9 := K_of hf hK
              have hK9 := hW56 _ hK9
              exact hK9 _ _ _ hP hD hS (lv_sub hl [1, 2, 0] rfl)
          · try dsimp only at hf
            show ∀ (H : Heap) (locs : List Loc) (ls : Array Slot), va_P G.1 vwCl (wX7 G ad f_56) H → va_D A (wX7 G ad f_56) → va_S A s.heap H locs → lv_has ls 5 [] → W p l e ({ frames := 2, cells := 0, slots := 0, locals := 37 }) s m args below meth c H locs 0 0 Q (F0 m 82 ls [])
            intro H locs ls hP hD hS hl
            refine lv_iconst (v := (nI 1)) hx hb dX7_sheet_82 (ic_1) ?_
            have hK9 := K0_of hf hK
            exact hRet (nI 1) f_56 _ _ _ _ hK9 dX7_sheet_83 hP hD hS
        · have hf := if_f hf hc
          refine lv_bipush (v := (-14 : Int32)) hx hb dX7_sheet_36 (bi_m14) ?_
          have hK9 := K0_of hf hK
          exact hRet (-14 : Int32) f _ _ _ _ hK9 dX7_sheet_38 hP hD hS
      · have hf := if_f hf hc
        refine lv_iconst (v := (-1 : Int32)) hx hb dX7_sheet_30 (ic_m1) ?_
        have hK9 := K0_of hf hK
        exact hRet (-1 : Int32) f _ _ _ _ hK9 dX7_sheet_31 hP hD hS
noncomputable def p_X7_lay_B99 (f : Mem) (s0 : Int32) (s1 : Int32) : Option (Int32 × Mem) :=
  gd (inb s1 160) <|
  bnd (upd (f 11) s1.toNatClampNeg s0) <| fun g99 =>
  some ((nI 1), (mrow 11 (g99) f))
noncomputable def p_X7_lay (f : Mem) (x1 : Int32) (x2 : Int32) (x3 : Int32) : Option (Int32 × Mem) :=
  Option.bind (p_X7_in ((x1).toInt64) (lN 0) (3 : Int64)) <| fun r6 =>
  if r6 = 0 then
    (some ((-1 : Int32), f))
  else
    (gd (inb x1 4) <|
     if (f 9 x1.toNatClampNeg) = (-4 : Int32) then
       (some ((-11 : Int32), f))
     else
       (gd (inb x1 4) <|
        Option.bind (p_X7_in ((x2).toInt64) (lN 0) (((f 10 x1.toNatClampNeg) - (nI 1)).toInt64)) <| fun r40 =>
        if r40 = 0 then
          (some ((-12 : Int32), f))
        else
          (gd (inb x1 4) <|
           if (f 9 x1.toNatClampNeg) = 0 then
             (p_X7_lay_B99 f ((x3 <<< ((nI 24) &&& 31)) >>> ((nI 24) &&& 31)) (((nI 40) * x1) + x2))
           else
             (gd (inb x1 4) <|
              if (f 9 x1.toNatClampNeg) = (nI 1) then
                (p_X7_lay_B99 f ((x3 <<< ((nI 16) &&& 31)) >>> ((nI 16) &&& 31)) (((nI 40) * x1) + x2))
              else
                (p_X7_lay_B99 f x3 (((nI 40) * x1) + x2))))))
set_option maxHeartbeats 4000000 in
set_option maxRecDepth 100000 in
theorem c_X7_lay (l : Launch) (G : Gt) (ad : Nat → Nat) (f : Mem) (x1 : Int32) (x2 : Int32) (x3 : Int32) (r : Int32) (fz : Mem) (hf : p_X7_lay f x1 x2 x3 = some (r, fz)) (sz : Nat) : Met l yX7_lay wsX7_lay ({ frames := 2, cells := 0, slots := 0, locals := 37 }) (Pc0 G sz [.ref (ad 0), .int x1, .int x2, .int x3] (wX7 G ad f)) (Qi0 G (va_A (wX7 G ad f) sz) r (wX7 G ad fz)) 0 0 (va_A (wX7 G ad f) sz) := by
  refine metP (Qf := fun A => Qi0 G A r (wX7 G ad fz)) cX7_lay 4 (some .int) (by decide) rfl (Nat.le_of_ble_eq_true rfl) ?_
  intro p e s m below meth c A ls hC hr hlocks hin hE hA hsz hP hD hS hl
  generalize hargs : ([.ref (ad 0), .int x1, .int x2, .int x3] : List Value).toArray = args at hC ⊢
  obtain ⟨hx, hb, hml, hown, hts⟩ := id hC
  have hT : va_K G.1 vwCl (tyL G) s := hE.1
  have hRet : ∀ (r9 : Int32) (f9 : Mem) (H : Heap) (locs : List Loc) (ls : Array Slot) (pc : Nat) (hK9 : (r9, f9) = (r, fz)) (hdg : decode cX7_lay pc = .ok (.ireturn, 1)), va_P G.1 vwCl (wX7 G ad f9) H → va_D A (wX7 G ad f9) → va_S A s.heap H locs → W p l e ({ frames := 2, cells := 0, slots := 0, locals := 37 }) s m args below meth c H locs 0 0 (MQ below (Qi0 G A r (wX7 G ad fz)) args s 0 0 A) (F0 m pc ls [.int r9]) := by
    intro r9 f9 H locs ls pc hK9 hdg hP hD hS
    cases hK9
    exact W.iret hx hb hr (fun t ht hW => ⟨⟨r, (), rfl, rfl, by rw [ht]; exact hP, hD⟩, hS.F ht⟩) hS.2.2 hdg hlocks
  generalize MQ below (Qi0 G A r (wX7 G ad fz)) args s 0 0 A = Q at hRet ⊢
  have lk35 := hts (.fieldLink RX7 35 "FeatherSharesModel" "lanes" "[I") (by decide +kernel)
  have inX7 : ∀ w ∈ u_ws RX7 TX7 34, w ∈ wsX7_lay := by decide +kernel
  have lk38 := hts (.fieldLink RX7 38 "FeatherSharesModel" "lengths" "[I") (by decide +kernel)
  have lk41 := hts (.fieldLink RX7 41 "FeatherSharesModel" "cells" "[I") (by decide +kernel)
  have hl : lv_has ls 4 [(0, .ref (ad 0)), (1, .int x1), (2, .int x2), (3, .int x3)] := hl
  have hK0 : (r, fz) = (r, fz) := rfl
  have hB99 : ∀ (f : Mem) (s0 : Int32) (s1 : Int32) (res : Int32 × Mem) (hf : p_X7_lay_B99 f s0 s1 = some res) (hK : res = (r, fz)), ∀ (H : Heap) (locs : List Loc) (ls : Array Slot), va_P G.1 vwCl (wX7 G ad f) H → va_D A (wX7 G ad f) → va_S A s.heap H locs → lv_has ls 4 [] → W p l e ({ frames := 2, cells := 0, slots := 0, locals := 37 }) s m args below meth c H locs 0 0 Q (F0 m 99 ls [.int s0, .int s1, .ref (ad 11)]) := by
    intro f s0 s1 res hf hK H locs ls hP hD hS hl
    unfold p_X7_lay_B99 at hf
    obtain ⟨hg, hf⟩ := gd_e hf
    obtain ⟨g99, eg99, hf⟩ := bnd_e hf
    refine va_iast (f := f 11) hx hb hT hP hD hS 11 0 rfl rfl (inb_e hg) dX7_lay_99 (fun H locs hP hD hS => ?_)
    rw [← eg99] at hP hD
    have hP : va_P G.1 vwCl (wX7 G ad (mrow 11 (g99) f)) H := hP
    have hD : va_D A (wX7 G ad (mrow 11 (g99) f)) := hD
    refine lv_iconst (v := (nI 1)) hx hb dX7_lay_100 (ic_1) ?_
    have hK9 := K0_of hf hK
    exact hRet (nI 1) (mrow 11 (g99) f) _ _ _ _ hK9 dX7_lay_101 hP hD hS
  obtain ⟨res, hres, hK⟩ : ∃ res, p_X7_lay f x1 x2 x3 = some res ∧ res = (r, fz) := ⟨_, hf, rfl⟩
  clear hf
  have hf := hres
  clear hres
  unfold p_X7_lay at hf
  refine lv_iload_n hx hb dX7_lay_0 rfl (lv_at hl 1 rfl) ?_
  refine lv_i2l (v := ((x1).toInt64)) hx hb dX7_lay_1 rfl ?_
  refine lv_lconst (v := (lN 0)) hx hb dX7_lay_2 rfl ?_
  refine W.ldc2 (v := (3 : Int64)) hx hb hown (hts (.constantLong RX7 169 (3 : Int64)) (by decide +kernel)) rfl dX7_lay_3 ?_
  refine W.eq (g2 := F0 m 6 ls [.long (3 : Int64), .long (lN 0), .long ((x1).toInt64)]) rfl ?_
  obtain ⟨r6, hc6, hf⟩ := bd_e hf
  refine cl_z_ro (Wd := (wX7 G ad f)) (Wc := ([] : va_W)) [] rfl (va_runS (As := [.long ((x1).toInt64), .long (lN 0), .long (3 : Int64)]) (rest := []) hC (c_X7_in l G ((x1).toInt64) (lN 0) (3 : Int64) r6 hc6 _) (va_cwS 3 hts gX7_lay_X7_in rfl rfl rfl (by decide +kernel) ⟨Nat.le_of_ble_eq_true rfl, Nat.le_of_ble_eq_true rfl⟩) ⟨Pc0_blind, fun U hU hW => Pc0_at (Wd := ([] : va_W)) hE (hP.subm [] rfl) (hD.sub [] (by decide) rfl) hU hW⟩ rfl rfl hl.1 rfl (lv_room (Nat.le_of_ble_eq_true rfl)) dX7_lay_6 ⟨Nat.zero_le _, Nat.zero_le _⟩) hS hA hP hD (fun H locs hn6 hP hD hS => ?_)
  refine lv_if_ne (tgt := 14) hx hb dX7_lay_9 (by decide) (fun hc => ?_) (fun hc => ?_)
  · have hf := if_f hf hc
    refine lv_aload_n hx hb dX7_lay_14 rfl (lv_at hl 0 rfl) ?_
    refine va_get (C := RX7) (T := TX7) (N := 34) (ci := 7) (v := .ref (ad 9)) hx hb hts inX7 hown hT hP 0 rfl rfl 30 (Nat.le_of_ble_eq_true rfl) lk35 (fun _ h => h) rfl dX7_lay_15 ?_
    refine lv_iload_n hx hb dX7_lay_18 rfl (lv_at hl 1 rfl) ?_
    obtain ⟨hg, hf⟩ := gd_e hf
    refine va_iald (f := f 9) hx hb hT hP 9 0 rfl rfl (inb_e hg) dX7_lay_19 ?_
    refine lv_bipush (v := (-4 : Int32)) hx hb dX7_lay_20 (bi_m4) ?_
    refine lv_icmp_ne (tgt := 28) hx hb dX7_lay_22 (by decide) (fun hc => ?_) (fun hc => ?_)
    · have hf := if_f hf hc
      refine lv_iload_n hx hb dX7_lay_28 rfl (lv_at hl 2 rfl) ?_
      refine lv_i2l (v := ((x2).toInt64)) hx hb dX7_lay_29 rfl ?_
      refine lv_lconst (v := (lN 0)) hx hb dX7_lay_30 rfl ?_
      refine lv_aload_n hx hb dX7_lay_31 rfl (lv_at hl 0 rfl) ?_
      refine va_get (C := RX7) (T := TX7) (N := 34) (ci := 7) (v := .ref (ad 10)) hx hb hts inX7 hown hT hP 0 rfl rfl 31 (Nat.le_of_ble_eq_true rfl) lk38 (fun _ h => h) rfl dX7_lay_32 ?_
      refine lv_iload_n hx hb dX7_lay_35 rfl (lv_at hl 1 rfl) ?_
      obtain ⟨hg, hf⟩ := gd_e hf
      refine va_iald (f := f 10) hx hb hT hP 10 0 rfl rfl (inb_e hg) dX7_lay_36 ?_
      refine lv_iconst (v := (nI 1)) hx hb dX7_lay_37 (ic_1) ?_
      refine lv_isub hx hb dX7_lay_38 ?_
      refine lv_i2l (v := (((f 10 x1.toNatClampNeg) - (nI 1)).toInt64)) hx hb dX7_lay_39 rfl ?_
      obtain ⟨r40, hc40, hf⟩ := bd_e hf
      refine cl_z_ro (Wd := (wX7 G ad f)) (Wc := ([] : va_W)) [] rfl (va_runS (As := [.long ((x2).toInt64), .long (lN 0), .long (((f 10 x1.toNatClampNeg) - (nI 1)).toInt64)]) (rest := []) hC (c_X7_in l G ((x2).toInt64) (lN 0) (((f 10 x1.toNatClampNeg) - (nI 1)).toInt64) r40 hc40 _) (va_cwS 3 hts gX7_lay_X7_in rfl rfl rfl (by decide +kernel) ⟨Nat.le_of_ble_eq_true rfl, Nat.le_of_ble_eq_true rfl⟩) ⟨Pc0_blind, fun U hU hW => Pc0_at (Wd := ([] : va_W)) hE (hP.subm [] rfl) (hD.sub [] (by decide) rfl) hU hW⟩ rfl rfl hl.1 rfl (lv_room (Nat.le_of_ble_eq_true rfl)) dX7_lay_40 ⟨Nat.zero_le _, Nat.zero_le _⟩) hS hA hP hD (fun H locs hn40 hP hD hS => ?_)
      refine lv_if_ne (tgt := 49) hx hb dX7_lay_43 (by decide) (fun hc => ?_) (fun hc => ?_)
      · have hf := if_f hf hc
        refine lv_aload_n hx hb dX7_lay_49 rfl (lv_at hl 0 rfl) ?_
        refine va_get (C := RX7) (T := TX7) (N := 34) (ci := 7) (v := .ref (ad 11)) hx hb hts inX7 hown hT hP 0 rfl rfl 32 (Nat.le_of_ble_eq_true rfl) lk41 (fun _ h => h) rfl dX7_lay_50 ?_
        refine lv_bipush (v := (nI 40)) hx hb dX7_lay_53 (bi_40) ?_
        refine lv_iload_n hx hb dX7_lay_55 rfl (lv_at hl 1 rfl) ?_
        refine lv_imul hx hb dX7_lay_56 ?_
        refine lv_iload_n hx hb dX7_lay_57 rfl (lv_at hl 2 rfl) ?_
        refine lv_iadd hx hb dX7_lay_58 ?_
        refine lv_aload_n hx hb dX7_lay_59 rfl (lv_at hl 0 rfl) ?_
        refine va_get (C := RX7) (T := TX7) (N := 34) (ci := 7) (v := .ref (ad 9)) hx hb hts inX7 hown hT hP 0 rfl rfl 30 (Nat.le_of_ble_eq_true rfl) lk35 (fun _ h => h) rfl dX7_lay_60 ?_
        refine lv_iload_n hx hb dX7_lay_63 rfl (lv_at hl 1 rfl) ?_
        obtain ⟨hg, hf⟩ := gd_e hf
        refine va_iald (f := f 9) hx hb hT hP 9 0 rfl rfl (inb_e hg) dX7_lay_64 ?_
        refine lv_if_ne (tgt := 78) hx hb dX7_lay_65 (by decide) (fun hc => ?_) (fun hc => ?_)
        · have hf := if_f hf hc
          refine lv_aload_n hx hb dX7_lay_78 rfl (lv_at hl 0 rfl) ?_
          refine va_get (C := RX7) (T := TX7) (N := 34) (ci := 7) (v := .ref (ad 9)) hx hb hts inX7 hown hT hP 0 rfl rfl 30 (Nat.le_of_ble_eq_true rfl) lk35 (fun _ h => h) rfl dX7_lay_79 ?_
          refine lv_iload_n hx hb dX7_lay_82 rfl (lv_at hl 1 rfl) ?_
          obtain ⟨hg, hf⟩ := gd_e hf
          refine va_iald (f := f 9) hx hb hT hP 9 0 rfl rfl (inb_e hg) dX7_lay_83 ?_
          refine lv_iconst (v := (nI 1)) hx hb dX7_lay_84 (ic_1) ?_
          refine lv_icmp_ne (tgt := 98) hx hb dX7_lay_85 (by decide) (fun hc => ?_) (fun hc => ?_)
          · have hf := if_f hf hc
            refine lv_iload_n hx hb dX7_lay_98 rfl (lv_at hl 3 rfl) ?_
            exact hB99 f x3 (((nI 40) * x1) + x2) _ hf hK _ _ _ hP hD hS (lv_sub hl [] rfl)
          · have hf := if_t hf hc
            refine lv_iload_n hx hb dX7_lay_88 rfl (lv_at hl 3 rfl) ?_
            refine lv_bipush (v := (nI 16)) hx hb dX7_lay_89 (bi_16) ?_
            refine lv_ishl hx hb dX7_lay_91 ?_
            refine lv_bipush (v := (nI 16)) hx hb dX7_lay_92 (bi_16) ?_
            refine lv_ishr hx hb dX7_lay_94 ?_
            refine lv_goto (tgt := 99) hx hb dX7_lay_95 (by decide) ?_
            exact hB99 f ((x3 <<< ((nI 16) &&& 31)) >>> ((nI 16) &&& 31)) (((nI 40) * x1) + x2) _ hf hK _ _ _ hP hD hS (lv_sub hl [] rfl)
        · have hf := if_t hf hc
          refine lv_iload_n hx hb dX7_lay_68 rfl (lv_at hl 3 rfl) ?_
          refine lv_bipush (v := (nI 24)) hx hb dX7_lay_69 (bi_24) ?_
          refine lv_ishl hx hb dX7_lay_71 ?_
          refine lv_bipush (v := (nI 24)) hx hb dX7_lay_72 (bi_24) ?_
          refine lv_ishr hx hb dX7_lay_74 ?_
          refine lv_goto (tgt := 99) hx hb dX7_lay_75 (by decide) ?_
          exact hB99 f ((x3 <<< ((nI 24) &&& 31)) >>> ((nI 24) &&& 31)) (((nI 40) * x1) + x2) _ hf hK _ _ _ hP hD hS (lv_sub hl [] rfl)
      · have hf := if_t hf hc
        refine lv_bipush (v := (-12 : Int32)) hx hb dX7_lay_46 (bi_m12) ?_
        have hK9 := K0_of hf hK
        exact hRet (-12 : Int32) f _ _ _ _ hK9 dX7_lay_48 hP hD hS
    · have hf := if_t hf hc
      refine lv_bipush (v := (-11 : Int32)) hx hb dX7_lay_25 (bi_m11) ?_
      have hK9 := K0_of hf hK
      exact hRet (-11 : Int32) f _ _ _ _ hK9 dX7_lay_27 hP hD hS
  · have hf := if_t hf hc
    refine lv_iconst (v := (-1 : Int32)) hx hb dX7_lay_12 (ic_m1) ?_
    have hK9 := K0_of hf hK
    exact hRet (-1 : Int32) f _ _ _ _ hK9 dX7_lay_13 hP hD hS
noncomputable def p_X7_read_B216 (f : Mem) (x5 : Int32) (x6 : Int32) : Option (Int32 × Mem) :=
  some (x6, (mset 0 22 x5 f))
noncomputable def p_X7_read_B126 (f_ : Mem) (x1 : Int32) (x2 : Int32) (x3 : Int32) (x4 : Int32) (x6 : Int32) (x7 : Int32) (s0 : Int32) : Option ((Int32 × Int32 × Int32 × Mem) ⊕ ((Int32 × Int32 × Mem) ⊕ (Int32 × Mem))) :=
  if s0 = 0 then
    (if (x7 - x7 / (nI 4) * (nI 4)) = (nI 3) then
       (gd (inb (((((nI 40) * x1) + x3) + x7) - (nI 3)) 160) <|
        gd (inb (((((nI 40) * x1) + x3) + x7) - (nI 2)) 160) <|
        gd (inb (((((nI 40) * x1) + x3) + x7) - (nI 1)) 160) <|
        gd (inb ((((nI 40) * x1) + x3) + x7) 160) <|
        Option.bind (p_X7_buys f_ (f_ 11 (((((nI 40) * x1) + x3) + x7) - (nI 3)).toNatClampNeg) (f_ 11 (((((nI 40) * x1) + x3) + x7) - (nI 2)).toNatClampNeg) (f_ 11 (((((nI 40) * x1) + x3) + x7) - (nI 1)).toNatClampNeg) (f_ 11 ((((nI 40) * x1) + x3) + x7).toNatClampNeg)) <| fun (r187, f_187) =>
        if 0 ≤ r187 then
          (some (Sum.inl (s0, (x6 + nI 1), (x7 + nI 1), f_187)))
        else
          (Option.bind (p_X7_copies f_187 (nI 180) (nI 0)) <| fun f_198 =>
           some (Sum.inr (Sum.inr (((-20 : Int32) - x6), f_198)))))
     else
       (some (Sum.inl (s0, x6, (x7 + nI 1), f_))))
  else
    (some (Sum.inl (s0, x6, (x7 + nI 1), f_)))
noncomputable def p_X7_read_L56 (x1 : Int32) (x2 : Int32) (x3 : Int32) (x4 : Int32) (z : Int32 × Int32 × Int32 × Mem) : Option ((Int32 × Int32 × Int32 × Mem) ⊕ ((Int32 × Int32 × Mem) ⊕ (Int32 × Mem))) :=
  match z with
  | (x5, x6, x7, f_) =>
    if ((nI 4) * x4) ≤ x7 then
      (some (Sum.inr (Sum.inl (x5, x6, f_))))
    else
      (if x5 = 0 then
         (gd (inb x1 4) <|
          if (f_ 9 x1.toNatClampNeg) = (-4 : Int32) then
            (p_X7_read_B126 f_ x1 x2 x3 x4 x6 x7 (nI 1))
          else
            (gd (inb x1 4) <|
             if (f_ 9 x1.toNatClampNeg) = x2 then
               (gd (inb x1 4) <|
                Option.bind (p_X7_in (((x3).toInt64) + ((x7).toInt64)) (lN 0) (((f_ 10 x1.toNatClampNeg) - (nI 1)).toInt64)) <| fun r115 =>
                if r115 = 0 then
                  (p_X7_read_B126 f_ x1 x2 x3 x4 x6 x7 (nI 2))
                else
                  (p_X7_read_B126 f_ x1 x2 x3 x4 x6 x7 (nI 0)))
             else
               (p_X7_read_B126 f_ x1 x2 x3 x4 x6 x7 (nI 3))))
       else
         (some (Sum.inr (Sum.inl (x5, x6, f_)))))
noncomputable def p_X7_read (f : Mem) (x1 : Int32) (x2 : Int32) (x3 : Int32) (x4 : Int32) : Option (Int32 × Mem) :=
  Option.bind (p_X7_in ((x1).toInt64) (lN 0) (3 : Int64)) <| fun r6 =>
  if r6 = 0 then
    (some ((-1 : Int32), f))
  else
    (Option.bind (p_X7_in ((x2).toInt64) (lN 0) (2 : Int64)) <| fun r18 =>
     if r18 = 0 then
       (some ((-1 : Int32), f))
     else
       (Option.bind (p_X7_in ((x4).toInt64) (lN 0) (10 : Int64)) <| fun r31 =>
        if r31 = 0 then
          (some ((-1 : Int32), f))
        else
          (Option.bind (p_X7_copies f (nI 0) (nI 180)) <| fun f_44 =>
           Option.bind (lp (p_X7_read_L56 x1 x2 x3 x4) ((nI 0), (nI 0), (nI 0), f_44)) <| Sum.elim (fun (y5_56, y6_56, f_56) =>
             p_X7_read_B216 f_56 y5_56 y6_56) some)))
set_option maxHeartbeats 4000000 in
set_option maxRecDepth 100000 in
theorem c_X7_read (l : Launch) (G : Gt) (ad : Nat → Nat) (f : Mem) (x1 : Int32) (x2 : Int32) (x3 : Int32) (x4 : Int32) (r : Int32) (fz : Mem) (hf : p_X7_read f x1 x2 x3 x4 = some (r, fz)) (sz : Nat) : Met l yX7_read wsX7_read ({ frames := 5, cells := 0, slots := 0, locals := 112 }) (Pc0 G sz [.ref (ad 0), .int x1, .int x2, .int x3, .int x4] (wX7 G ad f)) (Qi0 G (va_A (wX7 G ad f) sz) r (wX7 G ad fz)) 0 0 (va_A (wX7 G ad f) sz) := by
  refine metP (Qf := fun A => Qi0 G A r (wX7 G ad fz)) cX7_read 9 (some .int) (by decide) rfl (Nat.le_of_ble_eq_true rfl) ?_
  intro p e s m below meth c A ls hC hr hlocks hin hE hA hsz hP hD hS hl
  generalize hargs : ([.ref (ad 0), .int x1, .int x2, .int x3, .int x4] : List Value).toArray = args at hC ⊢
  obtain ⟨hx, hb, hml, hown, hts⟩ := id hC
  have hT : va_K G.1 vwCl (tyL G) s := hE.1
  have hRet : ∀ (r9 : Int32) (f9 : Mem) (H : Heap) (locs : List Loc) (ls : Array Slot) (pc : Nat) (hK9 : (r9, f9) = (r, fz)) (hdg : decode cX7_read pc = .ok (.ireturn, 1)), va_P G.1 vwCl (wX7 G ad f9) H → va_D A (wX7 G ad f9) → va_S A s.heap H locs → W p l e ({ frames := 5, cells := 0, slots := 0, locals := 112 }) s m args below meth c H locs 0 0 (MQ below (Qi0 G A r (wX7 G ad fz)) args s 0 0 A) (F0 m pc ls [.int r9]) := by
    intro r9 f9 H locs ls pc hK9 hdg hP hD hS
    cases hK9
    exact W.iret hx hb hr (fun t ht hW => ⟨⟨r, (), rfl, rfl, by rw [ht]; exact hP, hD⟩, hS.F ht⟩) hS.2.2 hdg hlocks
  generalize MQ below (Qi0 G A r (wX7 G ad fz)) args s 0 0 A = Q at hRet ⊢
  have lk290 := hts (.fieldLink RX7 290 "FeatherSharesModel" "torn" "I") (by decide +kernel)
  have inX7 : ∀ w ∈ u_ws RX7 TX7 34, w ∈ wsX7_read := by decide +kernel
  have lk41 := hts (.fieldLink RX7 41 "FeatherSharesModel" "cells" "[I") (by decide +kernel)
  have lk35 := hts (.fieldLink RX7 35 "FeatherSharesModel" "lanes" "[I") (by decide +kernel)
  have lk38 := hts (.fieldLink RX7 38 "FeatherSharesModel" "lengths" "[I") (by decide +kernel)
  have hl : lv_has ls 9 [(0, .ref (ad 0)), (1, .int x1), (2, .int x2), (3, .int x3), (4, .int x4)] := hl
  have hK0 : (r, fz) = (r, fz) := rfl
  have hB216 : ∀ (f : Mem) (x5 : Int32) (x6 : Int32) (res : Int32 × Mem) (hf : p_X7_read_B216 f x5 x6 = some res) (hK : res = (r, fz)), ∀ (H : Heap) (locs : List Loc) (ls : Array Slot), va_P G.1 vwCl (wX7 G ad f) H → va_D A (wX7 G ad f) → va_S A s.heap H locs → lv_has ls 9 [(0, .ref (ad 0)), (5, .int x5), (6, .int x6)] → W p l e ({ frames := 5, cells := 0, slots := 0, locals := 112 }) s m args below meth c H locs 0 0 Q (F0 m 216 ls []) := by
    intro f x5 x6 res hf hK H locs ls hP hD hS hl
    unfold p_X7_read_B216 at hf
    refine lv_aload_n hx hb dX7_read_216 rfl (lv_at hl 0 rfl) ?_
    refine lv_iload hx hb dX7_read_217 (lv_at hl 1 rfl) ?_
    refine va_put (C := RX7) (T := TX7) (N := 34) (ci := 7) (ty := .int) (v := .int x5) hx hb hts inX7 tyX7 tyX7_ok nmX7 hown hT hP hD hS 0 rfl rfl 33 (Nat.le_of_ble_eq_true rfl) lk290 (fun _ h => h) rfl (by decide +kernel) rfl rfl (Nat.le_of_ble_eq_true rfl) dX7_read_219 (fun H locs hP hD hS => ?_)
    have hP : va_P G.1 vwCl (wX7 G ad (mset 0 22 x5 f)) H := hP
    have hD : va_D A (wX7 G ad (mset 0 22 x5 f)) := hD
    refine lv_iload hx hb dX7_read_222 (lv_at hl 2 rfl) ?_
    have hK9 := K0_of hf hK
    exact hRet x6 (mset 0 22 x5 f) _ _ _ _ hK9 dX7_read_224 hP hD hS
  obtain ⟨res, hres, hK⟩ : ∃ res, p_X7_read f x1 x2 x3 x4 = some res ∧ res = (r, fz) := ⟨_, hf, rfl⟩
  clear hf
  have hf := hres
  clear hres
  unfold p_X7_read at hf
  refine lv_iload_n hx hb dX7_read_0 rfl (lv_at hl 1 rfl) ?_
  refine lv_i2l (v := ((x1).toInt64)) hx hb dX7_read_1 rfl ?_
  refine lv_lconst (v := (lN 0)) hx hb dX7_read_2 rfl ?_
  refine W.ldc2 (v := (3 : Int64)) hx hb hown (hts (.constantLong RX7 169 (3 : Int64)) (by decide +kernel)) rfl dX7_read_3 ?_
  refine W.eq (g2 := F0 m 6 ls [.long (3 : Int64), .long (lN 0), .long ((x1).toInt64)]) rfl ?_
  obtain ⟨r6, hc6, hf⟩ := bd_e hf
  refine cl_z_ro (Wd := (wX7 G ad f)) (Wc := ([] : va_W)) [] rfl (va_runS (As := [.long ((x1).toInt64), .long (lN 0), .long (3 : Int64)]) (rest := []) hC (c_X7_in l G ((x1).toInt64) (lN 0) (3 : Int64) r6 hc6 _) (va_cwS 3 hts gX7_read_X7_in rfl rfl rfl (by decide +kernel) ⟨Nat.le_of_ble_eq_true rfl, Nat.le_of_ble_eq_true rfl⟩) ⟨Pc0_blind, fun U hU hW => Pc0_at (Wd := ([] : va_W)) hE (hP.subm [] rfl) (hD.sub [] (by decide) rfl) hU hW⟩ rfl rfl hl.1 rfl (lv_room (Nat.le_of_ble_eq_true rfl)) dX7_read_6 ⟨Nat.zero_le _, Nat.zero_le _⟩) hS hA hP hD (fun H locs hn6 hP hD hS => ?_)
  refine lv_if_eq (tgt := 37) hx hb dX7_read_9 (by decide) (fun hc => ?_) (fun hc => ?_)
  · have hf := if_t hf hc
    refine lv_iconst (v := (-1 : Int32)) hx hb dX7_read_37 (ic_m1) ?_
    have hK9 := K0_of hf hK
    exact hRet (-1 : Int32) f _ _ _ _ hK9 dX7_read_38 hP hD hS
  · have hf := if_f hf hc
    refine lv_iload_n hx hb dX7_read_12 rfl (lv_at hl 2 rfl) ?_
    refine lv_i2l (v := ((x2).toInt64)) hx hb dX7_read_13 rfl ?_
    refine lv_lconst (v := (lN 0)) hx hb dX7_read_14 rfl ?_
    refine W.ldc2 (v := (2 : Int64)) hx hb hown (hts (.constantLong RX7 217 (2 : Int64)) (by decide +kernel)) rfl dX7_read_15 ?_
    refine W.eq (g2 := F0 m 18 ls [.long (2 : Int64), .long (lN 0), .long ((x2).toInt64)]) rfl ?_
    obtain ⟨r18, hc18, hf⟩ := bd_e hf
    refine cl_z_ro (Wd := (wX7 G ad f)) (Wc := ([] : va_W)) [] rfl (va_runS (As := [.long ((x2).toInt64), .long (lN 0), .long (2 : Int64)]) (rest := []) hC (c_X7_in l G ((x2).toInt64) (lN 0) (2 : Int64) r18 hc18 _) (va_cwS 3 hts gX7_read_X7_in rfl rfl rfl (by decide +kernel) ⟨Nat.le_of_ble_eq_true rfl, Nat.le_of_ble_eq_true rfl⟩) ⟨Pc0_blind, fun U hU hW => Pc0_at (Wd := ([] : va_W)) hE (hP.subm [] rfl) (hD.sub [] (by decide) rfl) hU hW⟩ rfl rfl hl.1 rfl (lv_room (Nat.le_of_ble_eq_true rfl)) dX7_read_18 ⟨Nat.zero_le _, Nat.zero_le _⟩) hS hA hP hD (fun H locs hn18 hP hD hS => ?_)
    refine lv_if_eq (tgt := 37) hx hb dX7_read_21 (by decide) (fun hc => ?_) (fun hc => ?_)
    · have hf := if_t hf hc
      refine lv_iconst (v := (-1 : Int32)) hx hb dX7_read_37 (ic_m1) ?_
      have hK9 := K0_of hf hK
      exact hRet (-1 : Int32) f _ _ _ _ hK9 dX7_read_38 hP hD hS
    · have hf := if_f hf hc
      refine lv_iload hx hb dX7_read_24 (lv_at hl 4 rfl) ?_
      refine lv_i2l (v := ((x4).toInt64)) hx hb dX7_read_26 rfl ?_
      refine lv_lconst (v := (lN 0)) hx hb dX7_read_27 rfl ?_
      refine W.ldc2 (v := (10 : Int64)) hx hb hown (hts (.constantLong RX7 255 (10 : Int64)) (by decide +kernel)) rfl dX7_read_28 ?_
      refine W.eq (g2 := F0 m 31 ls [.long (10 : Int64), .long (lN 0), .long ((x4).toInt64)]) rfl ?_
      obtain ⟨r31, hc31, hf⟩ := bd_e hf
      refine cl_z_ro (Wd := (wX7 G ad f)) (Wc := ([] : va_W)) [] rfl (va_runS (As := [.long ((x4).toInt64), .long (lN 0), .long (10 : Int64)]) (rest := []) hC (c_X7_in l G ((x4).toInt64) (lN 0) (10 : Int64) r31 hc31 _) (va_cwS 3 hts gX7_read_X7_in rfl rfl rfl (by decide +kernel) ⟨Nat.le_of_ble_eq_true rfl, Nat.le_of_ble_eq_true rfl⟩) ⟨Pc0_blind, fun U hU hW => Pc0_at (Wd := ([] : va_W)) hE (hP.subm [] rfl) (hD.sub [] (by decide) rfl) hU hW⟩ rfl rfl hl.1 rfl (lv_room (Nat.le_of_ble_eq_true rfl)) dX7_read_31 ⟨Nat.zero_le _, Nat.zero_le _⟩) hS hA hP hD (fun H locs hn31 hP hD hS => ?_)
      refine lv_if_ne (tgt := 39) hx hb dX7_read_34 (by decide) (fun hc => ?_) (fun hc => ?_)
      · have hf := if_f hf hc
        refine lv_aload_n hx hb dX7_read_39 rfl (lv_at hl 0 rfl) ?_
        refine lv_iconst (v := (nI 0)) hx hb dX7_read_40 (ic_0) ?_
        refine lv_sipush (v := (nI 180)) hx hb dX7_read_41 (si_180) ?_
        obtain ⟨f_44, hc44, hf⟩ := bd_e hf
        refine cl_v_same (Wd := (wX7 G ad f)) (W' := (wX7 G ad f_44)) (va_runV (As := [.int (nI 0), .int (nI 180)]) (rest := []) hC (c_X7_copies l G ad f (nI 0) (nI 180) f_44 hc44 _) (cwV 2 hts gX7_read_X7_copies rfl rfl rfl (by decide +kernel) ⟨Nat.le_of_ble_eq_true rfl, Nat.le_of_ble_eq_true rfl⟩) ⟨Pc0_blind, va_recv hT hP (q0 := 0) (ci := 7) rfl rfl, fun U hU hW => Pc0_at hE hP hD hU hW⟩ rfl rfl hl.1 rfl (lv_room (Nat.le_of_ble_eq_true rfl)) dX7_read_44 ⟨Nat.zero_le _, Nat.zero_le _⟩) hS hA hD (fun H locs hP hD hS => ?_)
        refine lv_iconst (v := (nI 0)) hx hb dX7_read_47 (ic_0) ?_
        refine lv_istore (lv' := [(5, .int (nI 0)), (0, .ref (ad 0)), (1, .int x1), (2, .int x2), (3, .int x3), (4, .int x4)]) hx hb dX7_read_48 hl (by decide) rfl (fun ls hl => ?_)
        refine lv_iconst (v := (nI 0)) hx hb dX7_read_50 (ic_0) ?_
        refine lv_istore (lv' := [(6, .int (nI 0)), (5, .int (nI 0)), (0, .ref (ad 0)), (1, .int x1), (2, .int x2), (3, .int x3), (4, .int x4)]) hx hb dX7_read_51 hl (by decide) rfl (fun ls hl => ?_)
        refine lv_iconst (v := (nI 0)) hx hb dX7_read_53 (ic_0) ?_
        refine lv_istore (lv' := [(7, .int (nI 0)), (6, .int (nI 0)), (5, .int (nI 0)), (0, .ref (ad 0)), (1, .int x1), (2, .int x2), (3, .int x3), (4, .int x4)]) hx hb dX7_read_54 hl (by decide) rfl (fun ls hl => ?_)
        obtain ⟨ze, hlp, hf⟩ := bd_e hf
        refine lp_W2 (p_X7_read_L56 x1 x2 x3 x4) (fun z => match z with | (x5, x6, x7, f_) => ∀ (H : Heap) (locs : List Loc) (ls : Array Slot), va_P G.1 vwCl (wX7 G ad f_) H → va_D A (wX7 G ad f_) → va_S A s.heap H locs → lv_has ls 9 [(0, .ref (ad 0)), (1, .int x1), (2, .int x2), (3, .int x3), (4, .int x4), (5, .int x5), (6, .int x6), (7, .int x7)] → W p l e ({ frames := 5, cells := 0, slots := 0, locals := 112 }) s m args below meth c H locs 0 0 Q (F0 m 56 ls [])) (fun z => match z with | (y5_56, y6_56, f_56) => ∀ (H : Heap) (locs : List Loc) (ls : Array Slot), va_P G.1 vwCl (wX7 G ad f_56) H → va_D A (wX7 G ad f_56) → va_S A s.heap H locs → lv_has ls 9 [(0, .ref (ad 0)), (5, .int y5_56), (6, .int y6_56)] → W p l e ({ frames := 5, cells := 0, slots := 0, locals := 112 }) s m args below meth c H locs 0 0 Q (F0 m 216 ls [])) (fun z => z = (r, fz)) ?_ hlp ?_ _ _ _ hP hD hS (lv_sub hl [3, 4, 5, 6, 7, 2, 1, 0] rfl)
        · clear hlp hf hK hP hD hS hl
          intro K56 hW56 hX56 hO56
          have hB126 : ∀ (f_ : Mem) (x6 : Int32) (x7 : Int32) (s0 : Int32) (res : (Int32 × Int32 × Int32 × Mem) ⊕ ((Int32 × Int32 × Mem) ⊕ (Int32 × Mem))) (hf : p_X7_read_B126 f_ x1 x2 x3 x4 x6 x7 s0 = some res) (hK : K56 res), ∀ (H : Heap) (locs : List Loc) (ls : Array Slot), va_P G.1 vwCl (wX7 G ad f_) H → va_D A (wX7 G ad f_) → va_S A s.heap H locs → lv_has ls 9 [(0, .ref (ad 0)), (1, .int x1), (2, .int x2), (3, .int x3), (4, .int x4), (6, .int x6), (7, .int x7)] → W p l e ({ frames := 5, cells := 0, slots := 0, locals := 112 }) s m args below meth c H locs 0 0 Q (F0 m 126 ls [.int s0]) := by
            intro f_ x6 x7 s0 res hf hK H locs ls hP hD hS hl
            unfold p_X7_read_B126 at hf
            refine lv_istore (lv' := [(5, .int s0), (0, .ref (ad 0)), (1, .int x1), (2, .int x2), (3, .int x3), (4, .int x4), (6, .int x6), (7, .int x7)]) hx hb dX7_read_126 hl (by decide) rfl (fun ls hl => ?_)
            refine lv_iload hx hb dX7_read_128 (lv_at hl 0 rfl) ?_
            refine lv_if_ne (tgt := 210) hx hb dX7_read_130 (by decide) (fun hc => ?_) (fun hc => ?_)
            · have hf := if_f hf hc
              refine lv_iinc (v := (x7 + nI 1)) (lv' := [(7, .int (x7 + nI 1)), (5, .int s0), (0, .ref (ad 0)), (1, .int x1), (2, .int x2), (3, .int x3), (4, .int x4), (6, .int x6)]) hx hb dX7_read_210 hl (k := 7) rfl (ii_x 1 _) (by decide) rfl (fun ls hl => ?_)
              refine lv_goto (tgt := 56) hx hb dX7_read_213 (by decide) ?_
              have hK9 := K_of hf hK
              have hK9 := hW56 _ hK9
              exact hK9 _ _ _ hP hD hS (lv_sub hl [2, 3, 4, 5, 6, 1, 7, 0] rfl)
            · have hf := if_t hf hc
              refine lv_iload hx hb dX7_read_133 (lv_at hl 7 rfl) ?_
              refine lv_iconst (v := (nI 4)) hx hb dX7_read_135 (ic_4) ?_
              refine lv_irem hx hb dX7_read_136 (by decide) ?_
              refine lv_iconst (v := (nI 3)) hx hb dX7_read_137 (ic_3) ?_
              refine lv_icmp_ne (tgt := 210) hx hb dX7_read_138 (by decide) (fun hc => ?_) (fun hc => ?_)
              · have hf := if_f hf hc
                refine lv_iinc (v := (x7 + nI 1)) (lv' := [(7, .int (x7 + nI 1)), (5, .int s0), (0, .ref (ad 0)), (1, .int x1), (2, .int x2), (3, .int x3), (4, .int x4), (6, .int x6)]) hx hb dX7_read_210 hl (k := 7) rfl (ii_x 1 _) (by decide) rfl (fun ls hl => ?_)
                refine lv_goto (tgt := 56) hx hb dX7_read_213 (by decide) ?_
                have hK9 := K_of hf hK
                have hK9 := hW56 _ hK9
                exact hK9 _ _ _ hP hD hS (lv_sub hl [2, 3, 4, 5, 6, 1, 7, 0] rfl)
              · have hf := if_t hf hc
                refine lv_bipush (v := (nI 40)) hx hb dX7_read_141 (bi_40) ?_
                refine lv_iload_n hx hb dX7_read_143 rfl (lv_at hl 2 rfl) ?_
                refine lv_imul hx hb dX7_read_144 ?_
                refine lv_iload_n hx hb dX7_read_145 rfl (lv_at hl 4 rfl) ?_
                refine lv_iadd hx hb dX7_read_146 ?_
                refine lv_iload hx hb dX7_read_147 (lv_at hl 7 rfl) ?_
                refine lv_iadd hx hb dX7_read_149 ?_
                refine lv_istore (lv' := [(8, .int ((((nI 40) * x1) + x3) + x7)), (5, .int s0), (0, .ref (ad 0)), (1, .int x1), (2, .int x2), (3, .int x3), (4, .int x4), (6, .int x6), (7, .int x7)]) hx hb dX7_read_150 hl (by decide) rfl (fun ls hl => ?_)
                refine lv_aload_n hx hb dX7_read_152 rfl (lv_at hl 2 rfl) ?_
                refine lv_aload_n hx hb dX7_read_153 rfl (lv_at hl 2 rfl) ?_
                refine va_get (C := RX7) (T := TX7) (N := 34) (ci := 7) (v := .ref (ad 11)) hx hb hts inX7 hown hT hP 0 rfl rfl 32 (Nat.le_of_ble_eq_true rfl) lk41 (fun _ h => h) rfl dX7_read_154 ?_
                refine lv_iload hx hb dX7_read_157 (lv_at hl 0 rfl) ?_
                refine lv_iconst (v := (nI 3)) hx hb dX7_read_159 (ic_3) ?_
                refine lv_isub hx hb dX7_read_160 ?_
                obtain ⟨hg, hf⟩ := gd_e hf
                refine va_iald (f := f_ 11) hx hb hT hP 11 0 rfl rfl (inb_e hg) dX7_read_161 ?_
                refine lv_aload_n hx hb dX7_read_162 rfl (lv_at hl 2 rfl) ?_
                refine va_get (C := RX7) (T := TX7) (N := 34) (ci := 7) (v := .ref (ad 11)) hx hb hts inX7 hown hT hP 0 rfl rfl 32 (Nat.le_of_ble_eq_true rfl) lk41 (fun _ h => h) rfl dX7_read_163 ?_
                refine lv_iload hx hb dX7_read_166 (lv_at hl 0 rfl) ?_
                refine lv_iconst (v := (nI 2)) hx hb dX7_read_168 (ic_2) ?_
                refine lv_isub hx hb dX7_read_169 ?_
                obtain ⟨hg, hf⟩ := gd_e hf
                refine va_iald (f := f_ 11) hx hb hT hP 11 0 rfl rfl (inb_e hg) dX7_read_170 ?_
                refine lv_aload_n hx hb dX7_read_171 rfl (lv_at hl 2 rfl) ?_
                refine va_get (C := RX7) (T := TX7) (N := 34) (ci := 7) (v := .ref (ad 11)) hx hb hts inX7 hown hT hP 0 rfl rfl 32 (Nat.le_of_ble_eq_true rfl) lk41 (fun _ h => h) rfl dX7_read_172 ?_
                refine lv_iload hx hb dX7_read_175 (lv_at hl 0 rfl) ?_
                refine lv_iconst (v := (nI 1)) hx hb dX7_read_177 (ic_1) ?_
                refine lv_isub hx hb dX7_read_178 ?_
                obtain ⟨hg, hf⟩ := gd_e hf
                refine va_iald (f := f_ 11) hx hb hT hP 11 0 rfl rfl (inb_e hg) dX7_read_179 ?_
                refine lv_aload_n hx hb dX7_read_180 rfl (lv_at hl 2 rfl) ?_
                refine va_get (C := RX7) (T := TX7) (N := 34) (ci := 7) (v := .ref (ad 11)) hx hb hts inX7 hown hT hP 0 rfl rfl 32 (Nat.le_of_ble_eq_true rfl) lk41 (fun _ h => h) rfl dX7_read_181 ?_
                refine lv_iload hx hb dX7_read_184 (lv_at hl 0 rfl) ?_
                obtain ⟨hg, hf⟩ := gd_e hf
                refine va_iald (f := f_ 11) hx hb hT hP 11 0 rfl rfl (inb_e hg) dX7_read_186 ?_
                obtain ⟨⟨r187, f_187⟩, hc187, hf⟩ := bd_e hf
                try dsimp only at hf
                refine cl_i_same (Wd := (wX7 G ad f_)) (W' := (wX7 G ad f_187)) (va_runV (As := [.int (f_ 11 (((((nI 40) * x1) + x3) + x7) - (nI 3)).toNatClampNeg), .int (f_ 11 (((((nI 40) * x1) + x3) + x7) - (nI 2)).toNatClampNeg), .int (f_ 11 (((((nI 40) * x1) + x3) + x7) - (nI 1)).toNatClampNeg), .int (f_ 11 ((((nI 40) * x1) + x3) + x7).toNatClampNeg)]) (rest := []) hC (c_X7_buys l G ad f_ (f_ 11 (((((nI 40) * x1) + x3) + x7) - (nI 3)).toNatClampNeg) (f_ 11 (((((nI 40) * x1) + x3) + x7) - (nI 2)).toNatClampNeg) (f_ 11 (((((nI 40) * x1) + x3) + x7) - (nI 1)).toNatClampNeg) (f_ 11 ((((nI 40) * x1) + x3) + x7).toNatClampNeg) r187 f_187 hc187 _) (cwV 4 hts gX7_read_X7_buys rfl rfl rfl (by decide +kernel) ⟨Nat.le_of_ble_eq_true rfl, Nat.le_of_ble_eq_true rfl⟩) ⟨Pc0_blind, va_recv hT hP (q0 := 0) (ci := 7) rfl rfl, fun U hU hW => Pc0_at hE hP hD hU hW⟩ rfl rfl hl.1 rfl (lv_room (Nat.le_of_ble_eq_true rfl)) dX7_read_187 ⟨Nat.zero_le _, Nat.zero_le _⟩) hS hA hD (fun H locs hP hD hS => ?_)
                refine lv_if_ge (tgt := 207) hx hb dX7_read_190 (by decide) (fun hc => ?_) (fun hc => ?_)
                · have hf := if_t hf hc
                  refine lv_iinc (v := (x6 + nI 1)) (lv' := [(6, .int (x6 + nI 1)), (8, .int ((((nI 40) * x1) + x3) + x7)), (5, .int s0), (0, .ref (ad 0)), (1, .int x1), (2, .int x2), (3, .int x3), (4, .int x4), (7, .int x7)]) hx hb dX7_read_207 hl (k := 7) rfl (ii_x 1 _) (by decide) rfl (fun ls hl => ?_)
                  refine lv_iinc (v := (x7 + nI 1)) (lv' := [(7, .int (x7 + nI 1)), (6, .int (x6 + nI 1)), (8, .int ((((nI 40) * x1) + x3) + x7)), (5, .int s0), (0, .ref (ad 0)), (1, .int x1), (2, .int x2), (3, .int x3), (4, .int x4)]) hx hb dX7_read_210 hl (k := 8) rfl (ii_x 1 _) (by decide) rfl (fun ls hl => ?_)
                  refine lv_goto (tgt := 56) hx hb dX7_read_213 (by decide) ?_
                  have hK9 := K_of hf hK
                  have hK9 := hW56 _ hK9
                  exact hK9 _ _ _ hP hD hS (lv_sub hl [4, 5, 6, 7, 8, 3, 1, 0] rfl)
                · have hf := if_f hf hc
                  refine lv_aload_n hx hb dX7_read_193 rfl (lv_at hl 2 rfl) ?_
                  refine lv_sipush (v := (nI 180)) hx hb dX7_read_194 (si_180) ?_
                  refine lv_iconst (v := (nI 0)) hx hb dX7_read_197 (ic_0) ?_
                  obtain ⟨f_198, hc198, hf⟩ := bd_e hf
                  refine cl_v_same (Wd := (wX7 G ad f_187)) (W' := (wX7 G ad f_198)) (va_runV (As := [.int (nI 180), .int (nI 0)]) (rest := []) hC (c_X7_copies l G ad f_187 (nI 180) (nI 0) f_198 hc198 _) (cwV 2 hts gX7_read_X7_copies rfl rfl rfl (by decide +kernel) ⟨Nat.le_of_ble_eq_true rfl, Nat.le_of_ble_eq_true rfl⟩) ⟨Pc0_blind, va_recv hT hP (q0 := 0) (ci := 7) rfl rfl, fun U hU hW => Pc0_at hE hP hD hU hW⟩ rfl rfl hl.1 rfl (lv_room (Nat.le_of_ble_eq_true rfl)) dX7_read_198 ⟨Nat.zero_le _, Nat.zero_le _⟩) hS hA hD (fun H locs hP hD hS => ?_)
                  refine lv_bipush (v := (-20 : Int32)) hx hb dX7_read_201 (bi_m20) ?_
                  refine lv_iload hx hb dX7_read_203 (lv_at hl 7 rfl) ?_
                  refine lv_isub hx hb dX7_read_205 ?_
                  have hK9 := K_of hf hK
                  have hK9 := hO56 _ hK9
                  exact hRet ((-20 : Int32) - x6) f_198 _ _ _ _ hK9 dX7_read_206 hP hD hS
          rintro ⟨x5, x6, x7, f_⟩ res hf hK H locs ls hP hD hS hl
          unfold p_X7_read_L56 at hf
          dsimp only at hf
          refine lv_iload hx hb dX7_read_56 (lv_at hl 7 rfl) ?_
          refine lv_iconst (v := (nI 4)) hx hb dX7_read_58 (ic_4) ?_
          refine lv_iload hx hb dX7_read_59 (lv_at hl 4 rfl) ?_
          refine lv_imul hx hb dX7_read_61 ?_
          refine lv_icmp_ge (tgt := 216) hx hb dX7_read_62 (by decide) (fun hc => ?_) (fun hc => ?_)
          · have hf := if_t hf hc
            have hK9 := K_of hf hK
            have hK9 := hX56 _ hK9
            exact hK9 _ _ _ hP hD hS (lv_sub hl [0, 5, 6] rfl)
          · have hf := if_f hf hc
            refine lv_iload hx hb dX7_read_65 (lv_at hl 5 rfl) ?_
            refine lv_if_ne (tgt := 216) hx hb dX7_read_67 (by decide) (fun hc => ?_) (fun hc => ?_)
            · have hf := if_f hf hc
              have hK9 := K_of hf hK
              have hK9 := hX56 _ hK9
              exact hK9 _ _ _ hP hD hS (lv_sub hl [0, 5, 6] rfl)
            · have hf := if_t hf hc
              refine lv_aload_n hx hb dX7_read_70 rfl (lv_at hl 0 rfl) ?_
              refine va_get (C := RX7) (T := TX7) (N := 34) (ci := 7) (v := .ref (ad 9)) hx hb hts inX7 hown hT hP 0 rfl rfl 30 (Nat.le_of_ble_eq_true rfl) lk35 (fun _ h => h) rfl dX7_read_71 ?_
              refine lv_iload_n hx hb dX7_read_74 rfl (lv_at hl 1 rfl) ?_
              obtain ⟨hg, hf⟩ := gd_e hf
              refine va_iald (f := f_ 9) hx hb hT hP 9 0 rfl rfl (inb_e hg) dX7_read_75 ?_
              refine lv_bipush (v := (-4 : Int32)) hx hb dX7_read_76 (bi_m4) ?_
              refine lv_icmp_ne (tgt := 85) hx hb dX7_read_78 (by decide) (fun hc => ?_) (fun hc => ?_)
              · have hf := if_f hf hc
                refine lv_aload_n hx hb dX7_read_85 rfl (lv_at hl 0 rfl) ?_
                refine va_get (C := RX7) (T := TX7) (N := 34) (ci := 7) (v := .ref (ad 9)) hx hb hts inX7 hown hT hP 0 rfl rfl 30 (Nat.le_of_ble_eq_true rfl) lk35 (fun _ h => h) rfl dX7_read_86 ?_
                refine lv_iload_n hx hb dX7_read_89 rfl (lv_at hl 1 rfl) ?_
                obtain ⟨hg, hf⟩ := gd_e hf
                refine va_iald (f := f_ 9) hx hb hT hP 9 0 rfl rfl (inb_e hg) dX7_read_90 ?_
                refine lv_iload_n hx hb dX7_read_91 rfl (lv_at hl 2 rfl) ?_
                refine lv_icmp_eq (tgt := 99) hx hb dX7_read_92 (by decide) (fun hc => ?_) (fun hc => ?_)
                · have hf := if_t hf hc
                  refine lv_iload_n hx hb dX7_read_99 rfl (lv_at hl 3 rfl) ?_
                  refine lv_i2l (v := ((x3).toInt64)) hx hb dX7_read_100 rfl ?_
                  refine lv_iload hx hb dX7_read_101 (lv_at hl 7 rfl) ?_
                  refine lv_i2l (v := ((x7).toInt64)) hx hb dX7_read_103 rfl ?_
                  refine lv_ladd hx hb dX7_read_104 ?_
                  refine lv_lconst (v := (lN 0)) hx hb dX7_read_105 rfl ?_
                  refine lv_aload_n hx hb dX7_read_106 rfl (lv_at hl 0 rfl) ?_
                  refine va_get (C := RX7) (T := TX7) (N := 34) (ci := 7) (v := .ref (ad 10)) hx hb hts inX7 hown hT hP 0 rfl rfl 31 (Nat.le_of_ble_eq_true rfl) lk38 (fun _ h => h) rfl dX7_read_107 ?_
                  refine lv_iload_n hx hb dX7_read_110 rfl (lv_at hl 1 rfl) ?_
                  obtain ⟨hg, hf⟩ := gd_e hf
                  refine va_iald (f := f_ 10) hx hb hT hP 10 0 rfl rfl (inb_e hg) dX7_read_111 ?_
                  refine lv_iconst (v := (nI 1)) hx hb dX7_read_112 (ic_1) ?_
                  refine lv_isub hx hb dX7_read_113 ?_
                  refine lv_i2l (v := (((f_ 10 x1.toNatClampNeg) - (nI 1)).toInt64)) hx hb dX7_read_114 rfl ?_
                  obtain ⟨r115, hc115, hf⟩ := bd_e hf
                  refine cl_z_ro (Wd := (wX7 G ad f_)) (Wc := ([] : va_W)) [] rfl (va_runS (As := [.long (((x3).toInt64) + ((x7).toInt64)), .long (lN 0), .long (((f_ 10 x1.toNatClampNeg) - (nI 1)).toInt64)]) (rest := []) hC (c_X7_in l G (((x3).toInt64) + ((x7).toInt64)) (lN 0) (((f_ 10 x1.toNatClampNeg) - (nI 1)).toInt64) r115 hc115 _) (va_cwS 3 hts gX7_read_X7_in rfl rfl rfl (by decide +kernel) ⟨Nat.le_of_ble_eq_true rfl, Nat.le_of_ble_eq_true rfl⟩) ⟨Pc0_blind, fun U hU hW => Pc0_at (Wd := ([] : va_W)) hE (hP.subm [] rfl) (hD.sub [] (by decide) rfl) hU hW⟩ rfl rfl hl.1 rfl (lv_room (Nat.le_of_ble_eq_true rfl)) dX7_read_115 ⟨Nat.zero_le _, Nat.zero_le _⟩) hS hA hP hD (fun H locs hn115 hP hD hS => ?_)
                  refine lv_if_ne (tgt := 125) hx hb dX7_read_118 (by decide) (fun hc => ?_) (fun hc => ?_)
                  · have hf := if_f hf hc
                    refine lv_iconst (v := (nI 0)) hx hb dX7_read_125 (ic_0) ?_
                    exact hB126 f_ x6 x7 (nI 0) _ hf hK _ _ _ hP hD hS (lv_sub hl [0, 1, 2, 3, 4, 6, 7] rfl)
                  · have hf := if_t hf hc
                    refine lv_iconst (v := (nI 2)) hx hb dX7_read_121 (ic_2) ?_
                    refine lv_goto (tgt := 126) hx hb dX7_read_122 (by decide) ?_
                    exact hB126 f_ x6 x7 (nI 2) _ hf hK _ _ _ hP hD hS (lv_sub hl [0, 1, 2, 3, 4, 6, 7] rfl)
                · have hf := if_f hf hc
                  refine lv_iconst (v := (nI 3)) hx hb dX7_read_95 (ic_3) ?_
                  refine lv_goto (tgt := 126) hx hb dX7_read_96 (by decide) ?_
                  exact hB126 f_ x6 x7 (nI 3) _ hf hK _ _ _ hP hD hS (lv_sub hl [0, 1, 2, 3, 4, 6, 7] rfl)
              · have hf := if_t hf hc
                refine lv_iconst (v := (nI 1)) hx hb dX7_read_81 (ic_1) ?_
                refine lv_goto (tgt := 126) hx hb dX7_read_82 (by decide) ?_
                exact hB126 f_ x6 x7 (nI 1) _ hf hK _ _ _ hP hD hS (lv_sub hl [0, 1, 2, 3, 4, 6, 7] rfl)
        · rcases ze with ⟨y5_56, y6_56, f_56⟩ | zo
          · try simp only [Sum.elim_inl] at hf
            try dsimp only at hf
            show ∀ (H : Heap) (locs : List Loc) (ls : Array Slot), va_P G.1 vwCl (wX7 G ad f_56) H → va_D A (wX7 G ad f_56) → va_S A s.heap H locs → lv_has ls 9 [(0, .ref (ad 0)), (5, .int y5_56), (6, .int y6_56)] → W p l e ({ frames := 5, cells := 0, slots := 0, locals := 112 }) s m args below meth c H locs 0 0 Q (F0 m 216 ls [])
            intro H locs ls hP hD hS hl
            exact hB216 f_56 y5_56 y6_56 _ hf hK _ _ _ hP hD hS (lv_sub hl [0, 1, 2] rfl)
          · have hK9 := K0_of (show some zo = some _ from hf) hK
            exact hK9
      · have hf := if_t hf hc
        refine lv_iconst (v := (-1 : Int32)) hx hb dX7_read_37 (ic_m1) ?_
        have hK9 := K0_of hf hK
        exact hRet (-1 : Int32) f _ _ _ _ hK9 dX7_read_38 hP hD hS
noncomputable def p_X7_torn (f : Mem) : Option (Int32) :=
  some (f 0 22)
set_option maxHeartbeats 4000000 in
set_option maxRecDepth 100000 in
theorem c_X7_torn (l : Launch) (G : Gt) (ad : Nat → Nat) (f : Mem) (r : Int32) (hf : p_X7_torn f = some r) (sz : Nat) : Met l yX7_torn wsX7_torn ({ frames := 1, cells := 0, slots := 0, locals := 12 }) (Pc0 G sz [.ref (ad 0)] (wX7 G ad f)) (Qi0 G (va_A (wX7 G ad f) sz) r (wX7 G ad f)) 0 0 (va_A (wX7 G ad f) sz) := by
  refine metP (Qf := fun A => Qi0 G A r (wX7 G ad f)) cX7_torn 1 (some .int) (by decide) rfl (Nat.le_of_ble_eq_true rfl) ?_
  intro p e s m below meth c A ls hC hr hlocks hin hE hA hsz hP hD hS hl
  generalize hargs : ([.ref (ad 0)] : List Value).toArray = args at hC ⊢
  obtain ⟨hx, hb, hml, hown, hts⟩ := id hC
  have hT : va_K G.1 vwCl (tyL G) s := hE.1
  have hRet : ∀ (r9 : Int32) (H : Heap) (locs : List Loc) (ls : Array Slot) (pc : Nat) (hK9 : r9 = r) (hdg : decode cX7_torn pc = .ok (.ireturn, 1)), va_P G.1 vwCl (wX7 G ad f) H → va_D A (wX7 G ad f) → va_S A s.heap H locs → W p l e ({ frames := 1, cells := 0, slots := 0, locals := 12 }) s m args below meth c H locs 0 0 (MQ below (Qi0 G A r (wX7 G ad f)) args s 0 0 A) (F0 m pc ls [.int r9]) := by
    intro r9 H locs ls pc hK9 hdg hP hD hS
    cases hK9
    exact W.iret hx hb hr (fun t ht hW => ⟨⟨r, (), rfl, rfl, by rw [ht]; exact hP, hD⟩, hS.F ht⟩) hS.2.2 hdg hlocks
  generalize MQ below (Qi0 G A r (wX7 G ad f)) args s 0 0 A = Q at hRet ⊢
  have lk290 := hts (.fieldLink RX7 290 "FeatherSharesModel" "torn" "I") (by decide +kernel)
  have inX7 : ∀ w ∈ u_ws RX7 TX7 34, w ∈ wsX7_torn := by decide +kernel
  have hl : lv_has ls 1 [(0, .ref (ad 0))] := hl
  have hK0 : r = r := rfl
  obtain ⟨res, hres, hK⟩ : ∃ res, p_X7_torn f = some res ∧ res = r := ⟨_, hf, rfl⟩
  clear hf
  have hf := hres
  clear hres
  unfold p_X7_torn at hf
  refine lv_aload_n hx hb dX7_torn_0 rfl (lv_at hl 0 rfl) ?_
  refine va_get (C := RX7) (T := TX7) (N := 34) (ci := 7) (v := .int (f 0 22)) hx hb hts inX7 hown hT hP 0 rfl rfl 33 (Nat.le_of_ble_eq_true rfl) lk290 (fun _ h => h) rfl dX7_torn_1 ?_
  have hK9 := K0_of hf hK
  exact hRet (f 0 22) _ _ _ _ hK9 dX7_torn_4 hP hD hS
noncomputable def p_X7_count_B127 (f : Mem) (s0 : Int32) : Option (Int32) :=
  gd (inb (nI 1) 2) <|
  if (f 8 (nI 1).toNatClampNeg) = 0 then
    (some (s0 + (nI 0)))
  else
    (some (s0 + (nI 1)))
noncomputable def p_X7_count_L7 (f : Mem) (x1 : Int32) (x3 : Int32) (z : Int32 × Int32) : Option ((Int32 × Int32) ⊕ Int32) :=
  match z with
  | (x2, x4) =>
    if (f 0 0) ≤ x4 then
      (some (Sum.inr x2))
    else
      (Option.bind (p_X7_feathersOn f (nI 0) x4) <| fun r21 =>
       some (Sum.inl ((x2 + r21), (x4 + nI 1))))
noncomputable def p_X7_count_L35 (f : Mem) (x1 : Int32) (x2 : Int32) (z : Int32 × Int32) : Option ((Int32 × Int32) ⊕ Int32) :=
  match z with
  | (x3, x4) =>
    gd (inb (nI 59) 360) <|
    if (f 1 (nI 59).toNatClampNeg) ≤ x4 then
      (some (Sum.inr x3))
    else
      (gd (inb (((nI 35) + ((nI 4) * x4)) + (nI 3)) 360) <|
       some (Sum.inl ((x3 + (f 1 (((nI 35) + ((nI 4) * x4)) + (nI 3)).toNatClampNeg)), (x4 + nI 1))))
noncomputable def p_X7_count (f : Mem) (x1 : Int32) : Option (Int32) :=
  Option.bind (lp (p_X7_count_L7 f x1 (nI 0)) ((nI 0), (nI 0))) <| fun y2_7 =>
  Option.bind (lp (p_X7_count_L35 f x1 y2_7) ((nI 0), (nI 0))) <| fun y3_35 =>
  if x1 = (nI 0) then
    (some (f 0 21))
  else if x1 = (nI 1) then
    (gd (inb (nI 0) 2) <|
     if (f 8 (nI 0).toNatClampNeg) = 0 then
       (p_X7_count_B127 f (nI 0))
     else
       (p_X7_count_B127 f (nI 1)))
  else if x1 = (nI 2) then
    (some (f 0 5))
  else if x1 = (nI 3) then
    (gd (inb (nI 0) 4) <|
     if (f 9 (nI 0).toNatClampNeg) = (-4 : Int32) then
       (some (-4 : Int32))
     else
       (gd (inb (nI 0) 4) <|
        some (f 10 (nI 0).toNatClampNeg)))
  else if x1 = (nI 4) then
    (some y2_7)
  else if x1 = (nI 5) then
    (some y3_35)
  else
    (some (-1 : Int32))
set_option maxHeartbeats 4000000 in
set_option maxRecDepth 100000 in
theorem c_X7_count (l : Launch) (G : Gt) (ad : Nat → Nat) (f : Mem) (x1 : Int32) (r : Int32) (hf : p_X7_count f x1 = some r) (sz : Nat) : Met l yX7_count wsX7_count ({ frames := 3, cells := 0, slots := 0, locals := 59 }) (Pc0 G sz [.ref (ad 0), .int x1] (wX7 G ad f)) (Qi0 G (va_A (wX7 G ad f) sz) r (wX7 G ad f)) 0 0 (va_A (wX7 G ad f) sz) := by
  refine metP (Qf := fun A => Qi0 G A r (wX7 G ad f)) cX7_count 5 (some .int) (by decide) rfl (Nat.le_of_ble_eq_true rfl) ?_
  intro p e s m below meth c A ls hC hr hlocks hin hE hA hsz hP hD hS hl
  generalize hargs : ([.ref (ad 0), .int x1] : List Value).toArray = args at hC ⊢
  obtain ⟨hx, hb, hml, hown, hts⟩ := id hC
  have hT : va_K G.1 vwCl (tyL G) s := hE.1
  have hRet : ∀ (r9 : Int32) (H : Heap) (locs : List Loc) (ls : Array Slot) (pc : Nat) (hK9 : r9 = r) (hdg : decode cX7_count pc = .ok (.ireturn, 1)), va_P G.1 vwCl (wX7 G ad f) H → va_D A (wX7 G ad f) → va_S A s.heap H locs → W p l e ({ frames := 3, cells := 0, slots := 0, locals := 59 }) s m args below meth c H locs 0 0 (MQ below (Qi0 G A r (wX7 G ad f)) args s 0 0 A) (F0 m pc ls [.int r9]) := by
    intro r9 H locs ls pc hK9 hdg hP hD hS
    cases hK9
    exact W.iret hx hb hr (fun t ht hW => ⟨⟨r, (), rfl, rfl, by rw [ht]; exact hP, hD⟩, hS.F ht⟩) hS.2.2 hdg hlocks
  generalize MQ below (Qi0 G A r (wX7 G ad f)) args s 0 0 A = Q at hRet ⊢
  have lk31 := hts (.fieldLink RX7 31 "FeatherSharesModel" "isKept" "[Z") (by decide +kernel)
  have inX7 : ∀ w ∈ u_ws RX7 TX7 34, w ∈ wsX7_count := by decide +kernel
  have lk128 := hts (.fieldLink RX7 128 "FeatherSharesModel" "gooseMany" "I") (by decide +kernel)
  have lk7 := hts (.fieldLink RX7 7 "FeatherSharesModel" "state" "[I") (by decide +kernel)
  have lk131 := hts (.fieldLink RX7 131 "FeatherSharesModel" "seenMany" "I") (by decide +kernel)
  have lk50 := hts (.fieldLink RX7 50 "FeatherSharesModel" "taped" "I") (by decide +kernel)
  have lk35 := hts (.fieldLink RX7 35 "FeatherSharesModel" "lanes" "[I") (by decide +kernel)
  have lk38 := hts (.fieldLink RX7 38 "FeatherSharesModel" "lengths" "[I") (by decide +kernel)
  have hl : lv_has ls 5 [(0, .ref (ad 0)), (1, .int x1)] := hl
  have hK0 : r = r := rfl
  have hB127 : ∀ (s0 : Int32) (res : Int32) (hf : p_X7_count_B127 f s0 = some res) (hK : res = r), ∀ (H : Heap) (locs : List Loc) (ls : Array Slot), va_P G.1 vwCl (wX7 G ad f) H → va_D A (wX7 G ad f) → va_S A s.heap H locs → lv_has ls 5 [(0, .ref (ad 0))] → W p l e ({ frames := 3, cells := 0, slots := 0, locals := 59 }) s m args below meth c H locs 0 0 Q (F0 m 127 ls [.int s0]) := by
    intro s0 res hf hK H locs ls hP hD hS hl
    unfold p_X7_count_B127 at hf
    refine lv_aload_n hx hb dX7_count_127 rfl (lv_at hl 0 rfl) ?_
    refine va_get (C := RX7) (T := TX7) (N := 34) (ci := 7) (v := .ref (ad 8)) hx hb hts inX7 hown hT hP 0 rfl rfl 29 (Nat.le_of_ble_eq_true rfl) lk31 (fun _ h => h) rfl dX7_count_128 ?_
    refine lv_iconst (v := (nI 1)) hx hb dX7_count_131 (ic_1) ?_
    obtain ⟨hg, hf⟩ := gd_e hf
    refine va_zald (f := f 8) hx hb hT hP 8 1 rfl rfl (inb_e hg) dX7_count_132 ?_
    refine lv_if_eq (tgt := 140) hx hb dX7_count_133 (by decide) (fun hc => ?_) (fun hc => ?_)
    · have hf := if_t hf hc
      refine lv_iconst (v := (nI 0)) hx hb dX7_count_140 (ic_0) ?_
      refine lv_iadd hx hb dX7_count_141 ?_
      have hK9 := K0_of hf hK
      exact hRet (s0 + (nI 0)) _ _ _ _ hK9 dX7_count_142 hP hD hS
    · have hf := if_f hf hc
      refine lv_iconst (v := (nI 1)) hx hb dX7_count_136 (ic_1) ?_
      refine lv_goto (tgt := 141) hx hb dX7_count_137 (by decide) ?_
      refine lv_iadd hx hb dX7_count_141 ?_
      have hK9 := K0_of hf hK
      exact hRet (s0 + (nI 1)) _ _ _ _ hK9 dX7_count_142 hP hD hS
  obtain ⟨res, hres, hK⟩ : ∃ res, p_X7_count f x1 = some res ∧ res = r := ⟨_, hf, rfl⟩
  clear hf
  have hf := hres
  clear hres
  unfold p_X7_count at hf
  refine lv_iconst (v := (nI 0)) hx hb dX7_count_0 (ic_0) ?_
  refine lv_istore_n (lv' := [(2, .int (nI 0)), (0, .ref (ad 0)), (1, .int x1)]) hx hb dX7_count_1 rfl hl (by decide) rfl (fun ls hl => ?_)
  refine lv_iconst (v := (nI 0)) hx hb dX7_count_2 (ic_0) ?_
  refine lv_istore_n (lv' := [(3, .int (nI 0)), (2, .int (nI 0)), (0, .ref (ad 0)), (1, .int x1)]) hx hb dX7_count_3 rfl hl (by decide) rfl (fun ls hl => ?_)
  refine lv_iconst (v := (nI 0)) hx hb dX7_count_4 (ic_0) ?_
  refine lv_istore (lv' := [(4, .int (nI 0)), (3, .int (nI 0)), (2, .int (nI 0)), (0, .ref (ad 0)), (1, .int x1)]) hx hb dX7_count_5 hl (by decide) rfl (fun ls hl => ?_)
  obtain ⟨y2_7, hlp, hf⟩ := bd_e hf
  refine lp_W1 (p_X7_count_L7 f x1 (nI 0)) (fun z => match z with | (x2, x4) => ∀ (H : Heap) (locs : List Loc) (ls : Array Slot), va_P G.1 vwCl (wX7 G ad f) H → va_D A (wX7 G ad f) → va_S A s.heap H locs → lv_has ls 5 [(0, .ref (ad 0)), (1, .int x1), (2, .int x2), (3, .int (nI 0)), (4, .int x4)] → W p l e ({ frames := 3, cells := 0, slots := 0, locals := 59 }) s m args below meth c H locs 0 0 Q (F0 m 7 ls [])) (fun (y2_7 : Int32) => ∀ (H : Heap) (locs : List Loc) (ls : Array Slot), va_P G.1 vwCl (wX7 G ad f) H → va_D A (wX7 G ad f) → va_S A s.heap H locs → lv_has ls 5 [(0, .ref (ad 0)), (1, .int x1), (2, .int y2_7), (3, .int (nI 0))] → W p l e ({ frames := 3, cells := 0, slots := 0, locals := 59 }) s m args below meth c H locs 0 0 Q (F0 m 32 ls [])) ?_ hlp ?_ _ _ _ hP hD hS (lv_sub hl [3, 4, 2, 1, 0] rfl)
  · clear hlp hf hK hP hD hS hl
    generalize (nI 0) = x3
    intro K7 hW7 hX7 
    rintro ⟨x2, x4⟩ res hf hK H locs ls hP hD hS hl
    unfold p_X7_count_L7 at hf
    dsimp only at hf
    refine lv_iload hx hb dX7_count_7 (lv_at hl 4 rfl) ?_
    refine lv_aload_n hx hb dX7_count_9 rfl (lv_at hl 0 rfl) ?_
    refine va_get (C := RX7) (T := TX7) (N := 34) (ci := 7) (v := .int (f 0 0)) hx hb hts inX7 hown hT hP 0 rfl rfl 1 (Nat.le_of_ble_eq_true rfl) lk128 (fun _ h => h) rfl dX7_count_10 ?_
    refine lv_icmp_ge (tgt := 32) hx hb dX7_count_13 (by decide) (fun hc => ?_) (fun hc => ?_)
    · have hf := if_t hf hc
      have hK9 := K_of hf hK
      have hK9 := hX7 _ hK9
      exact hK9 _ _ _ hP hD hS (lv_sub hl [0, 1, 2, 3] rfl)
    · have hf := if_f hf hc
      refine lv_iload_n hx hb dX7_count_16 rfl (lv_at hl 2 rfl) ?_
      refine lv_aload_n hx hb dX7_count_17 rfl (lv_at hl 0 rfl) ?_
      refine lv_iconst (v := (nI 0)) hx hb dX7_count_18 (ic_0) ?_
      refine lv_iload hx hb dX7_count_19 (lv_at hl 4 rfl) ?_
      obtain ⟨r21, hc21, hf⟩ := bd_e hf
      refine cl_i_same (Wd := (wX7 G ad f)) (W' := (wX7 G ad f)) (va_runV (As := [.int (nI 0), .int x4]) (rest := [.int x2]) hC (c_X7_feathersOn l G ad f (nI 0) x4 r21 hc21 _) (cwV 2 hts gX7_count_X7_feathersOn rfl rfl rfl (by decide +kernel) ⟨Nat.le_of_ble_eq_true rfl, Nat.le_of_ble_eq_true rfl⟩) ⟨Pc0_blind, va_recv hT hP (q0 := 0) (ci := 7) rfl rfl, fun U hU hW => Pc0_at hE hP hD hU hW⟩ rfl rfl hl.1 rfl (lv_room (Nat.le_of_ble_eq_true rfl)) dX7_count_21 ⟨Nat.zero_le _, Nat.zero_le _⟩) hS hA hD (fun H locs hP hD hS => ?_)
      refine lv_iadd hx hb dX7_count_24 ?_
      refine lv_istore_n (lv' := [(2, .int (x2 + r21)), (0, .ref (ad 0)), (1, .int x1), (3, .int x3), (4, .int x4)]) hx hb dX7_count_25 rfl hl (by decide) rfl (fun ls hl => ?_)
      refine lv_iinc (v := (x4 + nI 1)) (lv' := [(4, .int (x4 + nI 1)), (2, .int (x2 + r21)), (0, .ref (ad 0)), (1, .int x1), (3, .int x3)]) hx hb dX7_count_26 hl (k := 4) rfl (ii_x 1 _) (by decide) rfl (fun ls hl => ?_)
      refine lv_goto (tgt := 7) hx hb dX7_count_29 (by decide) ?_
      have hK9 := K_of hf hK
      have hK9 := hW7 _ hK9
      exact hK9 _ _ _ hP hD hS (lv_sub hl [2, 3, 1, 4, 0] rfl)
  · try dsimp only at hf
    show ∀ (H : Heap) (locs : List Loc) (ls : Array Slot), va_P G.1 vwCl (wX7 G ad f) H → va_D A (wX7 G ad f) → va_S A s.heap H locs → lv_has ls 5 [(0, .ref (ad 0)), (1, .int x1), (2, .int y2_7), (3, .int (nI 0))] → W p l e ({ frames := 3, cells := 0, slots := 0, locals := 59 }) s m args below meth c H locs 0 0 Q (F0 m 32 ls [])
    intro H locs ls hP hD hS hl
    refine lv_iconst (v := (nI 0)) hx hb dX7_count_32 (ic_0) ?_
    refine lv_istore (lv' := [(4, .int (nI 0)), (0, .ref (ad 0)), (1, .int x1), (2, .int y2_7), (3, .int (nI 0))]) hx hb dX7_count_33 hl (by decide) rfl (fun ls hl => ?_)
    obtain ⟨y3_35, hlp, hf⟩ := bd_e hf
    refine lp_W1 (p_X7_count_L35 f x1 y2_7) (fun z => match z with | (x3, x4) => ∀ (H : Heap) (locs : List Loc) (ls : Array Slot), va_P G.1 vwCl (wX7 G ad f) H → va_D A (wX7 G ad f) → va_S A s.heap H locs → lv_has ls 5 [(0, .ref (ad 0)), (1, .int x1), (2, .int y2_7), (3, .int x3), (4, .int x4)] → W p l e ({ frames := 3, cells := 0, slots := 0, locals := 59 }) s m args below meth c H locs 0 0 Q (F0 m 35 ls [])) (fun (y3_35 : Int32) => ∀ (H : Heap) (locs : List Loc) (ls : Array Slot), va_P G.1 vwCl (wX7 G ad f) H → va_D A (wX7 G ad f) → va_S A s.heap H locs → lv_has ls 5 [(0, .ref (ad 0)), (1, .int x1), (2, .int y2_7), (3, .int y3_35)] → W p l e ({ frames := 3, cells := 0, slots := 0, locals := 59 }) s m args below meth c H locs 0 0 Q (F0 m 70 ls [])) ?_ hlp ?_ _ _ _ hP hD hS (lv_sub hl [1, 2, 3, 4, 0] rfl)
    · clear hlp hf hK hP hD hS hl
      generalize y2_7 = x2
      intro K35 hW35 hX35 
      rintro ⟨x3, x4⟩ res hf hK H locs ls hP hD hS hl
      unfold p_X7_count_L35 at hf
      dsimp only at hf
      refine lv_iload hx hb dX7_count_35 (lv_at hl 4 rfl) ?_
      refine lv_aload_n hx hb dX7_count_37 rfl (lv_at hl 0 rfl) ?_
      refine va_get (C := RX7) (T := TX7) (N := 34) (ci := 7) (v := .ref (ad 1)) hx hb hts inX7 hown hT hP 0 rfl rfl 0 (Nat.le_of_ble_eq_true rfl) lk7 (fun _ h => h) rfl dX7_count_38 ?_
      refine lv_bipush (v := (nI 59)) hx hb dX7_count_41 (bi_59) ?_
      obtain ⟨hg, hf⟩ := gd_e hf
      refine va_iald (f := f 1) hx hb hT hP 1 0 rfl rfl (inb_e hg) dX7_count_43 ?_
      refine lv_icmp_ge (tgt := 70) hx hb dX7_count_44 (by decide) (fun hc => ?_) (fun hc => ?_)
      · have hf := if_t hf hc
        have hK9 := K_of hf hK
        have hK9 := hX35 _ hK9
        exact hK9 _ _ _ hP hD hS (lv_sub hl [0, 1, 2, 3] rfl)
      · have hf := if_f hf hc
        refine lv_iload_n hx hb dX7_count_47 rfl (lv_at hl 3 rfl) ?_
        refine lv_aload_n hx hb dX7_count_48 rfl (lv_at hl 0 rfl) ?_
        refine va_get (C := RX7) (T := TX7) (N := 34) (ci := 7) (v := .ref (ad 1)) hx hb hts inX7 hown hT hP 0 rfl rfl 0 (Nat.le_of_ble_eq_true rfl) lk7 (fun _ h => h) rfl dX7_count_49 ?_
        refine lv_bipush (v := (nI 35)) hx hb dX7_count_52 (bi_35) ?_
        refine lv_iconst (v := (nI 4)) hx hb dX7_count_54 (ic_4) ?_
        refine lv_iload hx hb dX7_count_55 (lv_at hl 4 rfl) ?_
        refine lv_imul hx hb dX7_count_57 ?_
        refine lv_iadd hx hb dX7_count_58 ?_
        refine lv_iconst (v := (nI 3)) hx hb dX7_count_59 (ic_3) ?_
        refine lv_iadd hx hb dX7_count_60 ?_
        obtain ⟨hg, hf⟩ := gd_e hf
        refine va_iald (f := f 1) hx hb hT hP 1 0 rfl rfl (inb_e hg) dX7_count_61 ?_
        refine lv_iadd hx hb dX7_count_62 ?_
        refine lv_istore_n (lv' := [(3, .int (x3 + (f 1 (((nI 35) + ((nI 4) * x4)) + (nI 3)).toNatClampNeg))), (0, .ref (ad 0)), (1, .int x1), (2, .int x2), (4, .int x4)]) hx hb dX7_count_63 rfl hl (by decide) rfl (fun ls hl => ?_)
        refine lv_iinc (v := (x4 + nI 1)) (lv' := [(4, .int (x4 + nI 1)), (3, .int (x3 + (f 1 (((nI 35) + ((nI 4) * x4)) + (nI 3)).toNatClampNeg))), (0, .ref (ad 0)), (1, .int x1), (2, .int x2)]) hx hb dX7_count_64 hl (k := 4) rfl (ii_x 1 _) (by decide) rfl (fun ls hl => ?_)
        refine lv_goto (tgt := 35) hx hb dX7_count_67 (by decide) ?_
        have hK9 := K_of hf hK
        have hK9 := hW35 _ hK9
        exact hK9 _ _ _ hP hD hS (lv_sub hl [2, 3, 4, 1, 0] rfl)
    · try dsimp only at hf
      show ∀ (H : Heap) (locs : List Loc) (ls : Array Slot), va_P G.1 vwCl (wX7 G ad f) H → va_D A (wX7 G ad f) → va_S A s.heap H locs → lv_has ls 5 [(0, .ref (ad 0)), (1, .int x1), (2, .int y2_7), (3, .int y3_35)] → W p l e ({ frames := 3, cells := 0, slots := 0, locals := 59 }) s m args below meth c H locs 0 0 Q (F0 m 70 ls [])
      intro H locs ls hP hD hS hl
      refine lv_iload_n hx hb dX7_count_70 rfl (lv_at hl 1 rfl) ?_
      by_cases hs0 : x1 = (nI 0)
      · have hf := if_t hf hs0
        refine lv_tableIn (tgt := 108) hx hb dX7_count_71 (by rw [hs0]; decide) (by rw [hs0]; decide) (by rw [hs0]; rfl) (by decide) ?_
        refine lv_aload_n hx hb dX7_count_108 rfl (lv_at hl 0 rfl) ?_
        refine va_get (C := RX7) (T := TX7) (N := 34) (ci := 7) (v := .int (f 0 21)) hx hb hts inX7 hown hT hP 0 rfl rfl 27 (Nat.le_of_ble_eq_true rfl) lk131 (fun _ h => h) rfl dX7_count_109 ?_
        have hK9 := K0_of hf hK
        exact hRet (f 0 21) _ _ _ _ hK9 dX7_count_112 hP hD hS
      have hf := if_f hf hs0
      by_cases hs1 : x1 = (nI 1)
      · have hf := if_t hf hs1
        refine lv_tableIn (tgt := 113) hx hb dX7_count_71 (by rw [hs1]; decide) (by rw [hs1]; decide) (by rw [hs1]; rfl) (by decide) ?_
        refine lv_aload_n hx hb dX7_count_113 rfl (lv_at hl 0 rfl) ?_
        refine va_get (C := RX7) (T := TX7) (N := 34) (ci := 7) (v := .ref (ad 8)) hx hb hts inX7 hown hT hP 0 rfl rfl 29 (Nat.le_of_ble_eq_true rfl) lk31 (fun _ h => h) rfl dX7_count_114 ?_
        refine lv_iconst (v := (nI 0)) hx hb dX7_count_117 (ic_0) ?_
        obtain ⟨hg, hf⟩ := gd_e hf
        refine va_zald (f := f 8) hx hb hT hP 8 1 rfl rfl (inb_e hg) dX7_count_118 ?_
        refine lv_if_eq (tgt := 126) hx hb dX7_count_119 (by decide) (fun hc => ?_) (fun hc => ?_)
        · have hf := if_t hf hc
          refine lv_iconst (v := (nI 0)) hx hb dX7_count_126 (ic_0) ?_
          exact hB127 (nI 0) _ hf hK _ _ _ hP hD hS (lv_sub hl [0] rfl)
        · have hf := if_f hf hc
          refine lv_iconst (v := (nI 1)) hx hb dX7_count_122 (ic_1) ?_
          refine lv_goto (tgt := 127) hx hb dX7_count_123 (by decide) ?_
          exact hB127 (nI 1) _ hf hK _ _ _ hP hD hS (lv_sub hl [0] rfl)
      have hf := if_f hf hs1
      by_cases hs2 : x1 = (nI 2)
      · have hf := if_t hf hs2
        refine lv_tableIn (tgt := 143) hx hb dX7_count_71 (by rw [hs2]; decide) (by rw [hs2]; decide) (by rw [hs2]; rfl) (by decide) ?_
        refine lv_aload_n hx hb dX7_count_143 rfl (lv_at hl 0 rfl) ?_
        refine va_get (C := RX7) (T := TX7) (N := 34) (ci := 7) (v := .int (f 0 5)) hx hb hts inX7 hown hT hP 0 rfl rfl 8 (Nat.le_of_ble_eq_true rfl) lk50 (fun _ h => h) rfl dX7_count_144 ?_
        have hK9 := K0_of hf hK
        exact hRet (f 0 5) _ _ _ _ hK9 dX7_count_147 hP hD hS
      have hf := if_f hf hs2
      by_cases hs3 : x1 = (nI 3)
      · have hf := if_t hf hs3
        refine lv_tableIn (tgt := 148) hx hb dX7_count_71 (by rw [hs3]; decide) (by rw [hs3]; decide) (by rw [hs3]; rfl) (by decide) ?_
        refine lv_aload_n hx hb dX7_count_148 rfl (lv_at hl 0 rfl) ?_
        refine va_get (C := RX7) (T := TX7) (N := 34) (ci := 7) (v := .ref (ad 9)) hx hb hts inX7 hown hT hP 0 rfl rfl 30 (Nat.le_of_ble_eq_true rfl) lk35 (fun _ h => h) rfl dX7_count_149 ?_
        refine lv_iconst (v := (nI 0)) hx hb dX7_count_152 (ic_0) ?_
        obtain ⟨hg, hf⟩ := gd_e hf
        refine va_iald (f := f 9) hx hb hT hP 9 0 rfl rfl (inb_e hg) dX7_count_153 ?_
        refine lv_bipush (v := (-4 : Int32)) hx hb dX7_count_154 (bi_m4) ?_
        refine lv_icmp_ne (tgt := 164) hx hb dX7_count_156 (by decide) (fun hc => ?_) (fun hc => ?_)
        · have hf := if_f hf hc
          refine lv_aload_n hx hb dX7_count_164 rfl (lv_at hl 0 rfl) ?_
          refine va_get (C := RX7) (T := TX7) (N := 34) (ci := 7) (v := .ref (ad 10)) hx hb hts inX7 hown hT hP 0 rfl rfl 31 (Nat.le_of_ble_eq_true rfl) lk38 (fun _ h => h) rfl dX7_count_165 ?_
          refine lv_iconst (v := (nI 0)) hx hb dX7_count_168 (ic_0) ?_
          obtain ⟨hg, hf⟩ := gd_e hf
          refine va_iald (f := f 10) hx hb hT hP 10 0 rfl rfl (inb_e hg) dX7_count_169 ?_
          have hK9 := K0_of hf hK
          exact hRet (f 10 (nI 0).toNatClampNeg) _ _ _ _ hK9 dX7_count_170 hP hD hS
        · have hf := if_t hf hc
          refine lv_bipush (v := (-4 : Int32)) hx hb dX7_count_159 (bi_m4) ?_
          refine lv_goto (tgt := 170) hx hb dX7_count_161 (by decide) ?_
          have hK9 := K0_of hf hK
          exact hRet (-4 : Int32) _ _ _ _ hK9 dX7_count_170 hP hD hS
      have hf := if_f hf hs3
      by_cases hs4 : x1 = (nI 4)
      · have hf := if_t hf hs4
        refine lv_tableIn (tgt := 171) hx hb dX7_count_71 (by rw [hs4]; decide) (by rw [hs4]; decide) (by rw [hs4]; rfl) (by decide) ?_
        refine lv_iload_n hx hb dX7_count_171 rfl (lv_at hl 2 rfl) ?_
        have hK9 := K0_of hf hK
        exact hRet y2_7 _ _ _ _ hK9 dX7_count_172 hP hD hS
      have hf := if_f hf hs4
      by_cases hs5 : x1 = (nI 5)
      · have hf := if_t hf hs5
        refine lv_tableIn (tgt := 173) hx hb dX7_count_71 (by rw [hs5]; decide) (by rw [hs5]; decide) (by rw [hs5]; rfl) (by decide) ?_
        refine lv_iload_n hx hb dX7_count_173 rfl (lv_at hl 3 rfl) ?_
        have hK9 := K0_of hf hK
        exact hRet y3_35 _ _ _ _ hK9 dX7_count_174 hP hD hS
      have hf := if_f hf hs5
      have hout : x1.toInt < 0 ∨ 5 < x1.toInt := by
        have t0 := ne_int hs0 (by decide)
        have t1 := ne_int hs1 (by decide)
        have t2 := ne_int hs2 (by decide)
        have t3 := ne_int hs3 (by decide)
        have t4 := ne_int hs4 (by decide)
        have t5 := ne_int hs5 (by decide)
        omega
      refine lv_tableOut (tgt := 175) hx hb dX7_count_71 hout (by decide) ?_
      refine lv_iconst (v := (-1 : Int32)) hx hb dX7_count_175 (ic_m1) ?_
      have hK9 := K0_of hf hK
      exact hRet (-1 : Int32) _ _ _ _ hK9 dX7_count_176 hP hD hS
