noncomputable def p_X7_shareOn (f : Mem) (x1 : Int32) (x2 : Int32) (x3 : Int32) : Option (Int32) :=
  gd (inb (((x1 + (nI 19)) + ((nI 5) * x2)) + x3) 360) <|
  some (f 1 (((x1 + (nI 19)) + ((nI 5) * x2)) + x3).toNatClampNeg)
set_option maxHeartbeats 4000000 in
set_option maxRecDepth 100000 in
theorem c_X7_shareOn (l : Launch) (G : Gt) (ad : Nat → Nat) (f : Mem) (x1 : Int32) (x2 : Int32) (x3 : Int32) (r : Int32) (hf : p_X7_shareOn f x1 x2 x3 = some r) (sz : Nat) : Met l yX7_shareOn wsX7_shareOn ({ frames := 1, cells := 0, slots := 0, locals := 12 }) (Pc0 G sz [.ref (ad 0), .int x1, .int x2, .int x3] (wX7 G ad f)) (Qi0 G (va_A (wX7 G ad f) sz) r (wX7 G ad f)) 0 0 (va_A (wX7 G ad f) sz) := by
  refine metP (Qf := fun A => Qi0 G A r (wX7 G ad f)) cX7_shareOn 4 (some .int) (by decide) rfl (Nat.le_of_ble_eq_true rfl) ?_
  intro p e s m below meth c A ls hC hr hlocks hin hE hA hsz hP hD hS hl
  generalize hargs : ([.ref (ad 0), .int x1, .int x2, .int x3] : List Value).toArray = args at hC ⊢
  obtain ⟨hx, hb, hml, hown, hts⟩ := id hC
  have hT : va_K G.1 vwCl (tyL G) s := hE.1
  have hRet : ∀ (r9 : Int32) (H : Heap) (locs : List Loc) (ls : Array Slot) (pc : Nat) (hK9 : r9 = r) (hdg : decode cX7_shareOn pc = .ok (.ireturn, 1)), va_P G.1 vwCl (wX7 G ad f) H → va_D A (wX7 G ad f) → va_S A s.heap H locs → W p l e ({ frames := 1, cells := 0, slots := 0, locals := 12 }) s m args below meth c H locs 0 0 (MQ below (Qi0 G A r (wX7 G ad f)) args s 0 0 A) (F0 m pc ls [.int r9]) := by
    intro r9 H locs ls pc hK9 hdg hP hD hS
    cases hK9
    exact W.iret hx hb hr (fun t ht hW => ⟨⟨r, (), rfl, rfl, by rw [ht]; exact hP, hD⟩, hS.F ht⟩) hS.2.2 hdg hlocks
  generalize MQ below (Qi0 G A r (wX7 G ad f)) args s 0 0 A = Q at hRet ⊢
  have lk7 := hts (.fieldLink RX7 7 "FeatherSharesModel" "state" "[I") (by decide +kernel)
  have inX7 : ∀ w ∈ u_ws RX7 TX7 34, w ∈ wsX7_shareOn := by decide +kernel
  have hl : lv_has ls 4 [(0, .ref (ad 0)), (1, .int x1), (2, .int x2), (3, .int x3)] := hl
  have hK0 : r = r := rfl
  obtain ⟨res, hres, hK⟩ : ∃ res, p_X7_shareOn f x1 x2 x3 = some res ∧ res = r := ⟨_, hf, rfl⟩
  clear hf
  have hf := hres
  clear hres
  unfold p_X7_shareOn at hf
  refine lv_aload_n hx hb dX7_shareOn_0 rfl (lv_at hl 0 rfl) ?_
  refine va_get (C := RX7) (T := TX7) (N := 34) (ci := 7) (v := .ref (ad 1)) hx hb hts inX7 hown hT hP 0 rfl rfl 0 (Nat.le_of_ble_eq_true rfl) lk7 (fun _ h => h) rfl dX7_shareOn_1 ?_
  refine lv_iload_n hx hb dX7_shareOn_4 rfl (lv_at hl 1 rfl) ?_
  refine lv_bipush (v := (nI 19)) hx hb dX7_shareOn_5 (bi_19) ?_
  refine lv_iadd hx hb dX7_shareOn_7 ?_
  refine lv_iconst (v := (nI 5)) hx hb dX7_shareOn_8 (ic_5) ?_
  refine lv_iload_n hx hb dX7_shareOn_9 rfl (lv_at hl 2 rfl) ?_
  refine lv_imul hx hb dX7_shareOn_10 ?_
  refine lv_iadd hx hb dX7_shareOn_11 ?_
  refine lv_iload_n hx hb dX7_shareOn_12 rfl (lv_at hl 3 rfl) ?_
  refine lv_iadd hx hb dX7_shareOn_13 ?_
  obtain ⟨hg, hf⟩ := gd_e hf
  refine va_iald (f := f 1) hx hb hT hP 1 0 rfl rfl (inb_e hg) dX7_shareOn_14 ?_
  have hK9 := K0_of hf hK
  exact hRet (f 1 (((x1 + (nI 19)) + ((nI 5) * x2)) + x3).toNatClampNeg) _ _ _ _ hK9 dX7_shareOn_15 hP hD hS
noncomputable def p_X7_moneyOn (f : Mem) (x1 : Int32) (x2 : Int32) : Option (Int32) :=
  gd (inb ((x1 + (nI 9)) + x2) 360) <|
  some ((f 1 ((x1 + (nI 9)) + x2).toNatClampNeg) + (nI 20))
set_option maxHeartbeats 4000000 in
set_option maxRecDepth 100000 in
theorem c_X7_moneyOn (l : Launch) (G : Gt) (ad : Nat → Nat) (f : Mem) (x1 : Int32) (x2 : Int32) (r : Int32) (hf : p_X7_moneyOn f x1 x2 = some r) (sz : Nat) : Met l yX7_moneyOn wsX7_moneyOn ({ frames := 1, cells := 0, slots := 0, locals := 12 }) (Pc0 G sz [.ref (ad 0), .int x1, .int x2] (wX7 G ad f)) (Qi0 G (va_A (wX7 G ad f) sz) r (wX7 G ad f)) 0 0 (va_A (wX7 G ad f) sz) := by
  refine metP (Qf := fun A => Qi0 G A r (wX7 G ad f)) cX7_moneyOn 3 (some .int) (by decide) rfl (Nat.le_of_ble_eq_true rfl) ?_
  intro p e s m below meth c A ls hC hr hlocks hin hE hA hsz hP hD hS hl
  generalize hargs : ([.ref (ad 0), .int x1, .int x2] : List Value).toArray = args at hC ⊢
  obtain ⟨hx, hb, hml, hown, hts⟩ := id hC
  have hT : va_K G.1 vwCl (tyL G) s := hE.1
  have hRet : ∀ (r9 : Int32) (H : Heap) (locs : List Loc) (ls : Array Slot) (pc : Nat) (hK9 : r9 = r) (hdg : decode cX7_moneyOn pc = .ok (.ireturn, 1)), va_P G.1 vwCl (wX7 G ad f) H → va_D A (wX7 G ad f) → va_S A s.heap H locs → W p l e ({ frames := 1, cells := 0, slots := 0, locals := 12 }) s m args below meth c H locs 0 0 (MQ below (Qi0 G A r (wX7 G ad f)) args s 0 0 A) (F0 m pc ls [.int r9]) := by
    intro r9 H locs ls pc hK9 hdg hP hD hS
    cases hK9
    exact W.iret hx hb hr (fun t ht hW => ⟨⟨r, (), rfl, rfl, by rw [ht]; exact hP, hD⟩, hS.F ht⟩) hS.2.2 hdg hlocks
  generalize MQ below (Qi0 G A r (wX7 G ad f)) args s 0 0 A = Q at hRet ⊢
  have lk7 := hts (.fieldLink RX7 7 "FeatherSharesModel" "state" "[I") (by decide +kernel)
  have inX7 : ∀ w ∈ u_ws RX7 TX7 34, w ∈ wsX7_moneyOn := by decide +kernel
  have hl : lv_has ls 3 [(0, .ref (ad 0)), (1, .int x1), (2, .int x2)] := hl
  have hK0 : r = r := rfl
  obtain ⟨res, hres, hK⟩ : ∃ res, p_X7_moneyOn f x1 x2 = some res ∧ res = r := ⟨_, hf, rfl⟩
  clear hf
  have hf := hres
  clear hres
  unfold p_X7_moneyOn at hf
  refine lv_aload_n hx hb dX7_moneyOn_0 rfl (lv_at hl 0 rfl) ?_
  refine va_get (C := RX7) (T := TX7) (N := 34) (ci := 7) (v := .ref (ad 1)) hx hb hts inX7 hown hT hP 0 rfl rfl 0 (Nat.le_of_ble_eq_true rfl) lk7 (fun _ h => h) rfl dX7_moneyOn_1 ?_
  refine lv_iload_n hx hb dX7_moneyOn_4 rfl (lv_at hl 1 rfl) ?_
  refine lv_bipush (v := (nI 9)) hx hb dX7_moneyOn_5 (bi_9) ?_
  refine lv_iadd hx hb dX7_moneyOn_7 ?_
  refine lv_iload_n hx hb dX7_moneyOn_8 rfl (lv_at hl 2 rfl) ?_
  refine lv_iadd hx hb dX7_moneyOn_9 ?_
  obtain ⟨hg, hf⟩ := gd_e hf
  refine va_iald (f := f 1) hx hb hT hP 1 0 rfl rfl (inb_e hg) dX7_moneyOn_10 ?_
  refine lv_bipush (v := (nI 20)) hx hb dX7_moneyOn_11 (bi_20) ?_
  refine lv_iadd hx hb dX7_moneyOn_13 ?_
  have hK9 := K0_of hf hK
  exact hRet ((f 1 ((x1 + (nI 9)) + x2).toNatClampNeg) + (nI 20)) _ _ _ _ hK9 dX7_moneyOn_14 hP hD hS
noncomputable def p_X7_feathersOn_L5 (f : Mem) (x1 : Int32) (x2 : Int32) (z : Int32 × Int32) : Option ((Int32 × Int32) ⊕ Int32) :=
  match z with
  | (x3, x4) =>
    if (nI 5) ≤ x4 then
      (some (Sum.inr x3))
    else
      (Option.bind (p_X7_shareOn f x1 x2 x4) <| fun r17 =>
       some (Sum.inl ((x3 + r17), (x4 + nI 1))))
noncomputable def p_X7_feathersOn (f : Mem) (x1 : Int32) (x2 : Int32) : Option (Int32) :=
  Option.bind (lp (p_X7_feathersOn_L5 f x1 x2) ((nI 0), (nI 0))) <| fun y3_5 =>
  some y3_5
set_option maxHeartbeats 4000000 in
set_option maxRecDepth 100000 in
theorem c_X7_feathersOn (l : Launch) (G : Gt) (ad : Nat → Nat) (f : Mem) (x1 : Int32) (x2 : Int32) (r : Int32) (hf : p_X7_feathersOn f x1 x2 = some r) (sz : Nat) : Met l yX7_feathersOn wsX7_feathersOn ({ frames := 2, cells := 0, slots := 0, locals := 35 }) (Pc0 G sz [.ref (ad 0), .int x1, .int x2] (wX7 G ad f)) (Qi0 G (va_A (wX7 G ad f) sz) r (wX7 G ad f)) 0 0 (va_A (wX7 G ad f) sz) := by
  refine metP (Qf := fun A => Qi0 G A r (wX7 G ad f)) cX7_feathersOn 5 (some .int) (by decide) rfl (Nat.le_of_ble_eq_true rfl) ?_
  intro p e s m below meth c A ls hC hr hlocks hin hE hA hsz hP hD hS hl
  generalize hargs : ([.ref (ad 0), .int x1, .int x2] : List Value).toArray = args at hC ⊢
  obtain ⟨hx, hb, hml, hown, hts⟩ := id hC
  have hT : va_K G.1 vwCl (tyL G) s := hE.1
  have hRet : ∀ (r9 : Int32) (H : Heap) (locs : List Loc) (ls : Array Slot) (pc : Nat) (hK9 : r9 = r) (hdg : decode cX7_feathersOn pc = .ok (.ireturn, 1)), va_P G.1 vwCl (wX7 G ad f) H → va_D A (wX7 G ad f) → va_S A s.heap H locs → W p l e ({ frames := 2, cells := 0, slots := 0, locals := 35 }) s m args below meth c H locs 0 0 (MQ below (Qi0 G A r (wX7 G ad f)) args s 0 0 A) (F0 m pc ls [.int r9]) := by
    intro r9 H locs ls pc hK9 hdg hP hD hS
    cases hK9
    exact W.iret hx hb hr (fun t ht hW => ⟨⟨r, (), rfl, rfl, by rw [ht]; exact hP, hD⟩, hS.F ht⟩) hS.2.2 hdg hlocks
  generalize MQ below (Qi0 G A r (wX7 G ad f)) args s 0 0 A = Q at hRet ⊢
  have hl : lv_has ls 5 [(0, .ref (ad 0)), (1, .int x1), (2, .int x2)] := hl
  have hK0 : r = r := rfl
  obtain ⟨res, hres, hK⟩ : ∃ res, p_X7_feathersOn f x1 x2 = some res ∧ res = r := ⟨_, hf, rfl⟩
  clear hf
  have hf := hres
  clear hres
  unfold p_X7_feathersOn at hf
  refine lv_iconst (v := (nI 0)) hx hb dX7_feathersOn_0 (ic_0) ?_
  refine lv_istore_n (lv' := [(3, .int (nI 0)), (0, .ref (ad 0)), (1, .int x1), (2, .int x2)]) hx hb dX7_feathersOn_1 rfl hl (by decide) rfl (fun ls hl => ?_)
  refine lv_iconst (v := (nI 0)) hx hb dX7_feathersOn_2 (ic_0) ?_
  refine lv_istore (lv' := [(4, .int (nI 0)), (3, .int (nI 0)), (0, .ref (ad 0)), (1, .int x1), (2, .int x2)]) hx hb dX7_feathersOn_3 hl (by decide) rfl (fun ls hl => ?_)
  obtain ⟨y3_5, hlp, hf⟩ := bd_e hf
  refine lp_W1 (p_X7_feathersOn_L5 f x1 x2) (fun z => match z with | (x3, x4) => ∀ (H : Heap) (locs : List Loc) (ls : Array Slot), va_P G.1 vwCl (wX7 G ad f) H → va_D A (wX7 G ad f) → va_S A s.heap H locs → lv_has ls 5 [(0, .ref (ad 0)), (1, .int x1), (2, .int x2), (3, .int x3), (4, .int x4)] → W p l e ({ frames := 2, cells := 0, slots := 0, locals := 35 }) s m args below meth c H locs 0 0 Q (F0 m 5 ls [])) (fun (y3_5 : Int32) => ∀ (H : Heap) (locs : List Loc) (ls : Array Slot), va_P G.1 vwCl (wX7 G ad f) H → va_D A (wX7 G ad f) → va_S A s.heap H locs → lv_has ls 5 [(3, .int y3_5)] → W p l e ({ frames := 2, cells := 0, slots := 0, locals := 35 }) s m args below meth c H locs 0 0 Q (F0 m 28 ls [])) ?_ hlp ?_ _ _ _ hP hD hS (lv_sub hl [2, 3, 4, 1, 0] rfl)
  · clear hlp hf hK hP hD hS hl
    intro K5 hW5 hX5 
    rintro ⟨x3, x4⟩ res hf hK H locs ls hP hD hS hl
    unfold p_X7_feathersOn_L5 at hf
    dsimp only at hf
    refine lv_iload hx hb dX7_feathersOn_5 (lv_at hl 4 rfl) ?_
    refine lv_iconst (v := (nI 5)) hx hb dX7_feathersOn_7 (ic_5) ?_
    refine lv_icmp_ge (tgt := 28) hx hb dX7_feathersOn_8 (by decide) (fun hc => ?_) (fun hc => ?_)
    · have hf := if_t hf hc
      have hK9 := K_of hf hK
      have hK9 := hX5 _ hK9
      exact hK9 _ _ _ hP hD hS (lv_sub hl [3] rfl)
    · have hf := if_f hf hc
      refine lv_iload_n hx hb dX7_feathersOn_11 rfl (lv_at hl 3 rfl) ?_
      refine lv_aload_n hx hb dX7_feathersOn_12 rfl (lv_at hl 0 rfl) ?_
      refine lv_iload_n hx hb dX7_feathersOn_13 rfl (lv_at hl 1 rfl) ?_
      refine lv_iload_n hx hb dX7_feathersOn_14 rfl (lv_at hl 2 rfl) ?_
      refine lv_iload hx hb dX7_feathersOn_15 (lv_at hl 4 rfl) ?_
      obtain ⟨r17, hc17, hf⟩ := bd_e hf
      refine cl_i_same (Wd := (wX7 G ad f)) (W' := (wX7 G ad f)) (va_runV (As := [.int x1, .int x2, .int x4]) (rest := [.int x3]) hC (c_X7_shareOn l G ad f x1 x2 x4 r17 hc17 _) (cwV 3 hts gX7_feathersOn_X7_shareOn rfl rfl rfl (by decide +kernel) ⟨Nat.le_of_ble_eq_true rfl, Nat.le_of_ble_eq_true rfl⟩) ⟨Pc0_blind, va_recv hT hP (q0 := 0) (ci := 7) rfl rfl, fun U hU hW => Pc0_at hE hP hD hU hW⟩ rfl rfl hl.1 rfl (lv_room (Nat.le_of_ble_eq_true rfl)) dX7_feathersOn_17 ⟨Nat.zero_le _, Nat.zero_le _⟩) hS hA hD (fun H locs hP hD hS => ?_)
      refine lv_iadd hx hb dX7_feathersOn_20 ?_
      refine lv_istore_n (lv' := [(3, .int (x3 + r17)), (0, .ref (ad 0)), (1, .int x1), (2, .int x2), (4, .int x4)]) hx hb dX7_feathersOn_21 rfl hl (by decide) rfl (fun ls hl => ?_)
      refine lv_iinc (v := (x4 + nI 1)) (lv' := [(4, .int (x4 + nI 1)), (3, .int (x3 + r17)), (0, .ref (ad 0)), (1, .int x1), (2, .int x2)]) hx hb dX7_feathersOn_22 hl (k := 4) rfl (ii_x 1 _) (by decide) rfl (fun ls hl => ?_)
      refine lv_goto (tgt := 5) hx hb dX7_feathersOn_25 (by decide) ?_
      have hK9 := K_of hf hK
      have hK9 := hW5 _ hK9
      exact hK9 _ _ _ hP hD hS (lv_sub hl [2, 3, 4, 1, 0] rfl)
  · try dsimp only at hf
    show ∀ (H : Heap) (locs : List Loc) (ls : Array Slot), va_P G.1 vwCl (wX7 G ad f) H → va_D A (wX7 G ad f) → va_S A s.heap H locs → lv_has ls 5 [(3, .int y3_5)] → W p l e ({ frames := 2, cells := 0, slots := 0, locals := 35 }) s m args below meth c H locs 0 0 Q (F0 m 28 ls [])
    intro H locs ls hP hD hS hl
    refine lv_iload_n hx hb dX7_feathersOn_28 rfl (lv_at hl 0 rfl) ?_
    have hK9 := K0_of hf hK
    exact hRet y3_5 _ _ _ _ hK9 dX7_feathersOn_29 hP hD hS
noncomputable def p_X7_eggOn_B78 (f : Mem) (x1 : Int32) (x2 : Int32) (s0 : Int32) : Option (Int32) :=
  Option.bind (p_X7_feathersOn f x1 x2) <| fun r82 =>
  if r82 = 0 then
    (some (-4 : Int32))
  else
    (some s0)
noncomputable def p_X7_eggOn_L5 (f : Mem) (x1 : Int32) (x2 : Int32) (z : Int32 × Int32) : Option ((Int32 × Int32) ⊕ Int32) :=
  match z with
  | (x3, x4) =>
    if (nI 5) ≤ x4 then
      (some (Sum.inr x3))
    else
      (Option.bind (p_X7_shareOn f x1 x2 x4) <| fun r16 =>
       Option.bind (p_X7_shareOn f x1 x2 x3) <| fun r23 =>
       if r16 ≤ r23 then
         (some (Sum.inl (x3, (x4 + nI 1))))
       else
         (some (Sum.inl (x4, (x4 + nI 1)))))
noncomputable def p_X7_eggOn (f : Mem) (x1 : Int32) (x2 : Int32) : Option (Int32) :=
  Option.bind (lp (p_X7_eggOn_L5 f x1 x2) ((nI 0), (nI 1))) <| fun y3_5 =>
  gd (inb ((x1 + (nI 3)) + x2) 360) <|
  Option.bind (p_X7_shareOn f x1 x2 (f 1 ((x1 + (nI 3)) + x2).toNatClampNeg)) <| fun r59 =>
  Option.bind (p_X7_shareOn f x1 x2 y3_5) <| fun r66 =>
  if r59 = r66 then
    (p_X7_eggOn_B78 f x1 x2 (f 1 ((x1 + (nI 3)) + x2).toNatClampNeg))
  else
    (p_X7_eggOn_B78 f x1 x2 y3_5)
set_option maxHeartbeats 4000000 in
set_option maxRecDepth 100000 in
theorem c_X7_eggOn (l : Launch) (G : Gt) (ad : Nat → Nat) (f : Mem) (x1 : Int32) (x2 : Int32) (r : Int32) (hf : p_X7_eggOn f x1 x2 = some r) (sz : Nat) : Met l yX7_eggOn wsX7_eggOn ({ frames := 3, cells := 0, slots := 0, locals := 59 }) (Pc0 G sz [.ref (ad 0), .int x1, .int x2] (wX7 G ad f)) (Qi0 G (va_A (wX7 G ad f) sz) r (wX7 G ad f)) 0 0 (va_A (wX7 G ad f) sz) := by
  refine metP (Qf := fun A => Qi0 G A r (wX7 G ad f)) cX7_eggOn 5 (some .int) (by decide) rfl (Nat.le_of_ble_eq_true rfl) ?_
  intro p e s m below meth c A ls hC hr hlocks hin hE hA hsz hP hD hS hl
  generalize hargs : ([.ref (ad 0), .int x1, .int x2] : List Value).toArray = args at hC ⊢
  obtain ⟨hx, hb, hml, hown, hts⟩ := id hC
  have hT : va_K G.1 vwCl (tyL G) s := hE.1
  have hRet : ∀ (r9 : Int32) (H : Heap) (locs : List Loc) (ls : Array Slot) (pc : Nat) (hK9 : r9 = r) (hdg : decode cX7_eggOn pc = .ok (.ireturn, 1)), va_P G.1 vwCl (wX7 G ad f) H → va_D A (wX7 G ad f) → va_S A s.heap H locs → W p l e ({ frames := 3, cells := 0, slots := 0, locals := 59 }) s m args below meth c H locs 0 0 (MQ below (Qi0 G A r (wX7 G ad f)) args s 0 0 A) (F0 m pc ls [.int r9]) := by
    intro r9 H locs ls pc hK9 hdg hP hD hS
    cases hK9
    exact W.iret hx hb hr (fun t ht hW => ⟨⟨r, (), rfl, rfl, by rw [ht]; exact hP, hD⟩, hS.F ht⟩) hS.2.2 hdg hlocks
  generalize MQ below (Qi0 G A r (wX7 G ad f)) args s 0 0 A = Q at hRet ⊢
  have lk7 := hts (.fieldLink RX7 7 "FeatherSharesModel" "state" "[I") (by decide +kernel)
  have inX7 : ∀ w ∈ u_ws RX7 TX7 34, w ∈ wsX7_eggOn := by decide +kernel
  have hl : lv_has ls 5 [(0, .ref (ad 0)), (1, .int x1), (2, .int x2)] := hl
  have hK0 : r = r := rfl
  have hB78 : ∀ (x1 : Int32) (x2 : Int32) (s0 : Int32) (res : Int32) (hf : p_X7_eggOn_B78 f x1 x2 s0 = some res) (hK : res = r), ∀ (H : Heap) (locs : List Loc) (ls : Array Slot), va_P G.1 vwCl (wX7 G ad f) H → va_D A (wX7 G ad f) → va_S A s.heap H locs → lv_has ls 5 [(0, .ref (ad 0)), (1, .int x1), (2, .int x2)] → W p l e ({ frames := 3, cells := 0, slots := 0, locals := 59 }) s m args below meth c H locs 0 0 Q (F0 m 78 ls [.int s0]) := by
    intro x1 x2 s0 res hf hK H locs ls hP hD hS hl
    unfold p_X7_eggOn_B78 at hf
    refine lv_istore_n (lv' := [(3, .int s0), (0, .ref (ad 0)), (1, .int x1), (2, .int x2)]) hx hb dX7_eggOn_78 rfl hl (by decide) rfl (fun ls hl => ?_)
    refine lv_aload_n hx hb dX7_eggOn_79 rfl (lv_at hl 1 rfl) ?_
    refine lv_iload_n hx hb dX7_eggOn_80 rfl (lv_at hl 2 rfl) ?_
    refine lv_iload_n hx hb dX7_eggOn_81 rfl (lv_at hl 3 rfl) ?_
    obtain ⟨r82, hc82, hf⟩ := bd_e hf
    refine cl_i_same (Wd := (wX7 G ad f)) (W' := (wX7 G ad f)) (va_runV (As := [.int x1, .int x2]) (rest := []) hC (c_X7_feathersOn l G ad f x1 x2 r82 hc82 _) (cwV 2 hts gX7_eggOn_X7_feathersOn rfl rfl rfl (by decide +kernel) ⟨Nat.le_of_ble_eq_true rfl, Nat.le_of_ble_eq_true rfl⟩) ⟨Pc0_blind, va_recv hT hP (q0 := 0) (ci := 7) rfl rfl, fun U hU hW => Pc0_at hE hP hD hU hW⟩ rfl rfl hl.1 rfl (lv_room (Nat.le_of_ble_eq_true rfl)) dX7_eggOn_82 ⟨Nat.zero_le _, Nat.zero_le _⟩) hS hA hD (fun H locs hP hD hS => ?_)
    refine lv_if_ne (tgt := 93) hx hb dX7_eggOn_85 (by decide) (fun hc => ?_) (fun hc => ?_)
    · have hf := if_f hf hc
      refine lv_iload_n hx hb dX7_eggOn_93 rfl (lv_at hl 0 rfl) ?_
      have hK9 := K0_of hf hK
      exact hRet s0 _ _ _ _ hK9 dX7_eggOn_94 hP hD hS
    · have hf := if_t hf hc
      refine lv_bipush (v := (-4 : Int32)) hx hb dX7_eggOn_88 (bi_m4) ?_
      refine lv_goto (tgt := 94) hx hb dX7_eggOn_90 (by decide) ?_
      have hK9 := K0_of hf hK
      exact hRet (-4 : Int32) _ _ _ _ hK9 dX7_eggOn_94 hP hD hS
  obtain ⟨res, hres, hK⟩ : ∃ res, p_X7_eggOn f x1 x2 = some res ∧ res = r := ⟨_, hf, rfl⟩
  clear hf
  have hf := hres
  clear hres
  unfold p_X7_eggOn at hf
  refine lv_iconst (v := (nI 0)) hx hb dX7_eggOn_0 (ic_0) ?_
  refine lv_istore_n (lv' := [(3, .int (nI 0)), (0, .ref (ad 0)), (1, .int x1), (2, .int x2)]) hx hb dX7_eggOn_1 rfl hl (by decide) rfl (fun ls hl => ?_)
  refine lv_iconst (v := (nI 1)) hx hb dX7_eggOn_2 (ic_1) ?_
  refine lv_istore (lv' := [(4, .int (nI 1)), (3, .int (nI 0)), (0, .ref (ad 0)), (1, .int x1), (2, .int x2)]) hx hb dX7_eggOn_3 hl (by decide) rfl (fun ls hl => ?_)
  obtain ⟨y3_5, hlp, hf⟩ := bd_e hf
  refine lp_W1 (p_X7_eggOn_L5 f x1 x2) (fun z => match z with | (x3, x4) => ∀ (H : Heap) (locs : List Loc) (ls : Array Slot), va_P G.1 vwCl (wX7 G ad f) H → va_D A (wX7 G ad f) → va_S A s.heap H locs → lv_has ls 5 [(0, .ref (ad 0)), (1, .int x1), (2, .int x2), (3, .int x3), (4, .int x4)] → W p l e ({ frames := 3, cells := 0, slots := 0, locals := 59 }) s m args below meth c H locs 0 0 Q (F0 m 5 ls [])) (fun (y3_5 : Int32) => ∀ (H : Heap) (locs : List Loc) (ls : Array Slot), va_P G.1 vwCl (wX7 G ad f) H → va_D A (wX7 G ad f) → va_S A s.heap H locs → lv_has ls 5 [(0, .ref (ad 0)), (1, .int x1), (2, .int x2), (3, .int y3_5)] → W p l e ({ frames := 3, cells := 0, slots := 0, locals := 59 }) s m args below meth c H locs 0 0 Q (F0 m 42 ls [])) ?_ hlp ?_ _ _ _ hP hD hS (lv_sub hl [2, 3, 4, 1, 0] rfl)
  · clear hlp hf hK hP hD hS hl
    intro K5 hW5 hX5 
    rintro ⟨x3, x4⟩ res hf hK H locs ls hP hD hS hl
    unfold p_X7_eggOn_L5 at hf
    dsimp only at hf
    refine lv_iload hx hb dX7_eggOn_5 (lv_at hl 4 rfl) ?_
    refine lv_iconst (v := (nI 5)) hx hb dX7_eggOn_7 (ic_5) ?_
    refine lv_icmp_ge (tgt := 42) hx hb dX7_eggOn_8 (by decide) (fun hc => ?_) (fun hc => ?_)
    · have hf := if_t hf hc
      have hK9 := K_of hf hK
      have hK9 := hX5 _ hK9
      exact hK9 _ _ _ hP hD hS (lv_sub hl [0, 1, 2, 3] rfl)
    · have hf := if_f hf hc
      refine lv_aload_n hx hb dX7_eggOn_11 rfl (lv_at hl 0 rfl) ?_
      refine lv_iload_n hx hb dX7_eggOn_12 rfl (lv_at hl 1 rfl) ?_
      refine lv_iload_n hx hb dX7_eggOn_13 rfl (lv_at hl 2 rfl) ?_
      refine lv_iload hx hb dX7_eggOn_14 (lv_at hl 4 rfl) ?_
      obtain ⟨r16, hc16, hf⟩ := bd_e hf
      refine cl_i_same (Wd := (wX7 G ad f)) (W' := (wX7 G ad f)) (va_runV (As := [.int x1, .int x2, .int x4]) (rest := []) hC (c_X7_shareOn l G ad f x1 x2 x4 r16 hc16 _) (cwV 3 hts gX7_eggOn_X7_shareOn rfl rfl rfl (by decide +kernel) ⟨Nat.le_of_ble_eq_true rfl, Nat.le_of_ble_eq_true rfl⟩) ⟨Pc0_blind, va_recv hT hP (q0 := 0) (ci := 7) rfl rfl, fun U hU hW => Pc0_at hE hP hD hU hW⟩ rfl rfl hl.1 rfl (lv_room (Nat.le_of_ble_eq_true rfl)) dX7_eggOn_16 ⟨Nat.zero_le _, Nat.zero_le _⟩) hS hA hD (fun H locs hP hD hS => ?_)
      refine lv_aload_n hx hb dX7_eggOn_19 rfl (lv_at hl 0 rfl) ?_
      refine lv_iload_n hx hb dX7_eggOn_20 rfl (lv_at hl 1 rfl) ?_
      refine lv_iload_n hx hb dX7_eggOn_21 rfl (lv_at hl 2 rfl) ?_
      refine lv_iload_n hx hb dX7_eggOn_22 rfl (lv_at hl 3 rfl) ?_
      obtain ⟨r23, hc23, hf⟩ := bd_e hf
      refine cl_i_same (Wd := (wX7 G ad f)) (W' := (wX7 G ad f)) (va_runV (As := [.int x1, .int x2, .int x3]) (rest := [.int r16]) hC (c_X7_shareOn l G ad f x1 x2 x3 r23 hc23 _) (cwV 3 hts gX7_eggOn_X7_shareOn rfl rfl rfl (by decide +kernel) ⟨Nat.le_of_ble_eq_true rfl, Nat.le_of_ble_eq_true rfl⟩) ⟨Pc0_blind, va_recv hT hP (q0 := 0) (ci := 7) rfl rfl, fun U hU hW => Pc0_at hE hP hD hU hW⟩ rfl rfl hl.1 rfl (lv_room (Nat.le_of_ble_eq_true rfl)) dX7_eggOn_23 ⟨Nat.zero_le _, Nat.zero_le _⟩) hS hA hD (fun H locs hP hD hS => ?_)
      refine lv_icmp_le (tgt := 34) hx hb dX7_eggOn_26 (by decide) (fun hc => ?_) (fun hc => ?_)
      · have hf := if_t hf hc
        refine lv_iload_n hx hb dX7_eggOn_34 rfl (lv_at hl 3 rfl) ?_
        refine lv_istore_n (lv' := [(3, .int x3), (0, .ref (ad 0)), (1, .int x1), (2, .int x2), (4, .int x4)]) hx hb dX7_eggOn_35 rfl hl (by decide) rfl (fun ls hl => ?_)
        refine lv_iinc (v := (x4 + nI 1)) (lv' := [(4, .int (x4 + nI 1)), (3, .int x3), (0, .ref (ad 0)), (1, .int x1), (2, .int x2)]) hx hb dX7_eggOn_36 hl (k := 4) rfl (ii_x 1 _) (by decide) rfl (fun ls hl => ?_)
        refine lv_goto (tgt := 5) hx hb dX7_eggOn_39 (by decide) ?_
        have hK9 := K_of hf hK
        have hK9 := hW5 _ hK9
        exact hK9 _ _ _ hP hD hS (lv_sub hl [2, 3, 4, 1, 0] rfl)
      · have hf := if_f hf hc
        refine lv_iload hx hb dX7_eggOn_29 (lv_at hl 4 rfl) ?_
        refine lv_goto (tgt := 35) hx hb dX7_eggOn_31 (by decide) ?_
        refine lv_istore_n (lv' := [(3, .int x4), (0, .ref (ad 0)), (1, .int x1), (2, .int x2), (4, .int x4)]) hx hb dX7_eggOn_35 rfl hl (by decide) rfl (fun ls hl => ?_)
        refine lv_iinc (v := (x4 + nI 1)) (lv' := [(4, .int (x4 + nI 1)), (3, .int x4), (0, .ref (ad 0)), (1, .int x1), (2, .int x2)]) hx hb dX7_eggOn_36 hl (k := 4) rfl (ii_x 1 _) (by decide) rfl (fun ls hl => ?_)
        refine lv_goto (tgt := 5) hx hb dX7_eggOn_39 (by decide) ?_
        have hK9 := K_of hf hK
        have hK9 := hW5 _ hK9
        exact hK9 _ _ _ hP hD hS (lv_sub hl [2, 3, 4, 1, 0] rfl)
  · try dsimp only at hf
    show ∀ (H : Heap) (locs : List Loc) (ls : Array Slot), va_P G.1 vwCl (wX7 G ad f) H → va_D A (wX7 G ad f) → va_S A s.heap H locs → lv_has ls 5 [(0, .ref (ad 0)), (1, .int x1), (2, .int x2), (3, .int y3_5)] → W p l e ({ frames := 3, cells := 0, slots := 0, locals := 59 }) s m args below meth c H locs 0 0 Q (F0 m 42 ls [])
    intro H locs ls hP hD hS hl
    refine lv_aload_n hx hb dX7_eggOn_42 rfl (lv_at hl 0 rfl) ?_
    refine va_get (C := RX7) (T := TX7) (N := 34) (ci := 7) (v := .ref (ad 1)) hx hb hts inX7 hown hT hP 0 rfl rfl 0 (Nat.le_of_ble_eq_true rfl) lk7 (fun _ h => h) rfl dX7_eggOn_43 ?_
    refine lv_iload_n hx hb dX7_eggOn_46 rfl (lv_at hl 1 rfl) ?_
    refine lv_iconst (v := (nI 3)) hx hb dX7_eggOn_47 (ic_3) ?_
    refine lv_iadd hx hb dX7_eggOn_48 ?_
    refine lv_iload_n hx hb dX7_eggOn_49 rfl (lv_at hl 2 rfl) ?_
    refine lv_iadd hx hb dX7_eggOn_50 ?_
    obtain ⟨hg, hf⟩ := gd_e hf
    refine va_iald (f := f 1) hx hb hT hP 1 0 rfl rfl (inb_e hg) dX7_eggOn_51 ?_
    refine lv_istore (lv' := [(4, .int (f 1 ((x1 + (nI 3)) + x2).toNatClampNeg)), (0, .ref (ad 0)), (1, .int x1), (2, .int x2), (3, .int y3_5)]) hx hb dX7_eggOn_52 hl (by decide) rfl (fun ls hl => ?_)
    refine lv_aload_n hx hb dX7_eggOn_54 rfl (lv_at hl 1 rfl) ?_
    refine lv_iload_n hx hb dX7_eggOn_55 rfl (lv_at hl 2 rfl) ?_
    refine lv_iload_n hx hb dX7_eggOn_56 rfl (lv_at hl 3 rfl) ?_
    refine lv_iload hx hb dX7_eggOn_57 (lv_at hl 0 rfl) ?_
    obtain ⟨r59, hc59, hf⟩ := bd_e hf
    refine cl_i_same (Wd := (wX7 G ad f)) (W' := (wX7 G ad f)) (va_runV (As := [.int x1, .int x2, .int (f 1 ((x1 + (nI 3)) + x2).toNatClampNeg)]) (rest := []) hC (c_X7_shareOn l G ad f x1 x2 (f 1 ((x1 + (nI 3)) + x2).toNatClampNeg) r59 hc59 _) (cwV 3 hts gX7_eggOn_X7_shareOn rfl rfl rfl (by decide +kernel) ⟨Nat.le_of_ble_eq_true rfl, Nat.le_of_ble_eq_true rfl⟩) ⟨Pc0_blind, va_recv hT hP (q0 := 0) (ci := 7) rfl rfl, fun U hU hW => Pc0_at hE hP hD hU hW⟩ rfl rfl hl.1 rfl (lv_room (Nat.le_of_ble_eq_true rfl)) dX7_eggOn_59 ⟨Nat.zero_le _, Nat.zero_le _⟩) hS hA hD (fun H locs hP hD hS => ?_)
    refine lv_aload_n hx hb dX7_eggOn_62 rfl (lv_at hl 1 rfl) ?_
    refine lv_iload_n hx hb dX7_eggOn_63 rfl (lv_at hl 2 rfl) ?_
    refine lv_iload_n hx hb dX7_eggOn_64 rfl (lv_at hl 3 rfl) ?_
    refine lv_iload_n hx hb dX7_eggOn_65 rfl (lv_at hl 4 rfl) ?_
    obtain ⟨r66, hc66, hf⟩ := bd_e hf
    refine cl_i_same (Wd := (wX7 G ad f)) (W' := (wX7 G ad f)) (va_runV (As := [.int x1, .int x2, .int y3_5]) (rest := [.int r59]) hC (c_X7_shareOn l G ad f x1 x2 y3_5 r66 hc66 _) (cwV 3 hts gX7_eggOn_X7_shareOn rfl rfl rfl (by decide +kernel) ⟨Nat.le_of_ble_eq_true rfl, Nat.le_of_ble_eq_true rfl⟩) ⟨Pc0_blind, va_recv hT hP (q0 := 0) (ci := 7) rfl rfl, fun U hU hW => Pc0_at hE hP hD hU hW⟩ rfl rfl hl.1 rfl (lv_room (Nat.le_of_ble_eq_true rfl)) dX7_eggOn_66 ⟨Nat.zero_le _, Nat.zero_le _⟩) hS hA hD (fun H locs hP hD hS => ?_)
    refine lv_icmp_ne (tgt := 77) hx hb dX7_eggOn_69 (by decide) (fun hc => ?_) (fun hc => ?_)
    · have hf := if_f hf hc
      refine lv_iload_n hx hb dX7_eggOn_77 rfl (lv_at hl 4 rfl) ?_
      exact hB78 x1 x2 y3_5 _ hf hK _ _ _ hP hD hS (lv_sub hl [1, 2, 3] rfl)
    · have hf := if_t hf hc
      refine lv_iload hx hb dX7_eggOn_72 (lv_at hl 0 rfl) ?_
      refine lv_goto (tgt := 78) hx hb dX7_eggOn_74 (by decide) ?_
      exact hB78 x1 x2 (f 1 ((x1 + (nI 3)) + x2).toNatClampNeg) _ hf hK _ _ _ hP hD hS (lv_sub hl [1, 2, 3] rfl)
noncomputable def p_X7_eggsNow_B34 (f : Mem) (x1 : Int32) (x2 : Int32) (x4 : Int32) (s0 : Int32) (s1 : Int32) : Option ((Int32 × Int32) ⊕ Int32) :=
  some (Sum.inl ((s1 ||| s0), (x4 + nI 1)))
noncomputable def p_X7_eggsNow_L5 (f : Mem) (x1 : Int32) (x2 : Int32) (z : Int32 × Int32) : Option ((Int32 × Int32) ⊕ Int32) :=
  match z with
  | (x3, x4) =>
    if (f 0 0) ≤ x4 then
      (some (Sum.inr x3))
    else
      (Option.bind (p_X7_eggOn f x1 x4) <| fun r19 =>
       if r19 = x2 then
         (p_X7_eggsNow_B34 f x1 x2 x4 ((nI 1) <<< (x4 &&& 31)) x3)
       else
         (p_X7_eggsNow_B34 f x1 x2 x4 (nI 0) x3))
noncomputable def p_X7_eggsNow (f : Mem) (x1 : Int32) (x2 : Int32) : Option (Int32) :=
  Option.bind (lp (p_X7_eggsNow_L5 f x1 x2) ((nI 0), (nI 0))) <| fun y3_5 =>
  some y3_5
set_option maxHeartbeats 4000000 in
set_option maxRecDepth 100000 in
theorem c_X7_eggsNow (l : Launch) (G : Gt) (ad : Nat → Nat) (f : Mem) (x1 : Int32) (x2 : Int32) (r : Int32) (hf : p_X7_eggsNow f x1 x2 = some r) (sz : Nat) : Met l yX7_eggsNow wsX7_eggsNow ({ frames := 4, cells := 0, slots := 0, locals := 83 }) (Pc0 G sz [.ref (ad 0), .int x1, .int x2] (wX7 G ad f)) (Qi0 G (va_A (wX7 G ad f) sz) r (wX7 G ad f)) 0 0 (va_A (wX7 G ad f) sz) := by
  refine metP (Qf := fun A => Qi0 G A r (wX7 G ad f)) cX7_eggsNow 5 (some .int) (by decide) rfl (Nat.le_of_ble_eq_true rfl) ?_
  intro p e s m below meth c A ls hC hr hlocks hin hE hA hsz hP hD hS hl
  generalize hargs : ([.ref (ad 0), .int x1, .int x2] : List Value).toArray = args at hC ⊢
  obtain ⟨hx, hb, hml, hown, hts⟩ := id hC
  have hT : va_K G.1 vwCl (tyL G) s := hE.1
  have hRet : ∀ (r9 : Int32) (H : Heap) (locs : List Loc) (ls : Array Slot) (pc : Nat) (hK9 : r9 = r) (hdg : decode cX7_eggsNow pc = .ok (.ireturn, 1)), va_P G.1 vwCl (wX7 G ad f) H → va_D A (wX7 G ad f) → va_S A s.heap H locs → W p l e ({ frames := 4, cells := 0, slots := 0, locals := 83 }) s m args below meth c H locs 0 0 (MQ below (Qi0 G A r (wX7 G ad f)) args s 0 0 A) (F0 m pc ls [.int r9]) := by
    intro r9 H locs ls pc hK9 hdg hP hD hS
    cases hK9
    exact W.iret hx hb hr (fun t ht hW => ⟨⟨r, (), rfl, rfl, by rw [ht]; exact hP, hD⟩, hS.F ht⟩) hS.2.2 hdg hlocks
  generalize MQ below (Qi0 G A r (wX7 G ad f)) args s 0 0 A = Q at hRet ⊢
  have lk128 := hts (.fieldLink RX7 128 "FeatherSharesModel" "gooseMany" "I") (by decide +kernel)
  have inX7 : ∀ w ∈ u_ws RX7 TX7 34, w ∈ wsX7_eggsNow := by decide +kernel
  have hl : lv_has ls 5 [(0, .ref (ad 0)), (1, .int x1), (2, .int x2)] := hl
  have hK0 : r = r := rfl
  obtain ⟨res, hres, hK⟩ : ∃ res, p_X7_eggsNow f x1 x2 = some res ∧ res = r := ⟨_, hf, rfl⟩
  clear hf
  have hf := hres
  clear hres
  unfold p_X7_eggsNow at hf
  refine lv_iconst (v := (nI 0)) hx hb dX7_eggsNow_0 (ic_0) ?_
  refine lv_istore_n (lv' := [(3, .int (nI 0)), (0, .ref (ad 0)), (1, .int x1), (2, .int x2)]) hx hb dX7_eggsNow_1 rfl hl (by decide) rfl (fun ls hl => ?_)
  refine lv_iconst (v := (nI 0)) hx hb dX7_eggsNow_2 (ic_0) ?_
  refine lv_istore (lv' := [(4, .int (nI 0)), (3, .int (nI 0)), (0, .ref (ad 0)), (1, .int x1), (2, .int x2)]) hx hb dX7_eggsNow_3 hl (by decide) rfl (fun ls hl => ?_)
  obtain ⟨y3_5, hlp, hf⟩ := bd_e hf
  refine lp_W1 (p_X7_eggsNow_L5 f x1 x2) (fun z => match z with | (x3, x4) => ∀ (H : Heap) (locs : List Loc) (ls : Array Slot), va_P G.1 vwCl (wX7 G ad f) H → va_D A (wX7 G ad f) → va_S A s.heap H locs → lv_has ls 5 [(0, .ref (ad 0)), (1, .int x1), (2, .int x2), (3, .int x3), (4, .int x4)] → W p l e ({ frames := 4, cells := 0, slots := 0, locals := 83 }) s m args below meth c H locs 0 0 Q (F0 m 5 ls [])) (fun (y3_5 : Int32) => ∀ (H : Heap) (locs : List Loc) (ls : Array Slot), va_P G.1 vwCl (wX7 G ad f) H → va_D A (wX7 G ad f) → va_S A s.heap H locs → lv_has ls 5 [(3, .int y3_5)] → W p l e ({ frames := 4, cells := 0, slots := 0, locals := 83 }) s m args below meth c H locs 0 0 Q (F0 m 42 ls [])) ?_ hlp ?_ _ _ _ hP hD hS (lv_sub hl [2, 3, 4, 1, 0] rfl)
  · clear hlp hf hK hP hD hS hl
    intro K5 hW5 hX5 
    have hB34 : ∀ (x4 : Int32) (s0 : Int32) (s1 : Int32) (res : (Int32 × Int32) ⊕ Int32) (hf : p_X7_eggsNow_B34 f x1 x2 x4 s0 s1 = some res) (hK : K5 res), ∀ (H : Heap) (locs : List Loc) (ls : Array Slot), va_P G.1 vwCl (wX7 G ad f) H → va_D A (wX7 G ad f) → va_S A s.heap H locs → lv_has ls 5 [(0, .ref (ad 0)), (1, .int x1), (2, .int x2), (4, .int x4)] → W p l e ({ frames := 4, cells := 0, slots := 0, locals := 83 }) s m args below meth c H locs 0 0 Q (F0 m 34 ls [.int s0, .int s1]) := by
      intro x4 s0 s1 res hf hK H locs ls hP hD hS hl
      unfold p_X7_eggsNow_B34 at hf
      refine lv_ior hx hb dX7_eggsNow_34 ?_
      refine lv_istore_n (lv' := [(3, .int (s1 ||| s0)), (0, .ref (ad 0)), (1, .int x1), (2, .int x2), (4, .int x4)]) hx hb dX7_eggsNow_35 rfl hl (by decide) rfl (fun ls hl => ?_)
      refine lv_iinc (v := (x4 + nI 1)) (lv' := [(4, .int (x4 + nI 1)), (3, .int (s1 ||| s0)), (0, .ref (ad 0)), (1, .int x1), (2, .int x2)]) hx hb dX7_eggsNow_36 hl (k := 4) rfl (ii_x 1 _) (by decide) rfl (fun ls hl => ?_)
      refine lv_goto (tgt := 5) hx hb dX7_eggsNow_39 (by decide) ?_
      have hK9 := K_of hf hK
      have hK9 := hW5 _ hK9
      exact hK9 _ _ _ hP hD hS (lv_sub hl [2, 3, 4, 1, 0] rfl)
    rintro ⟨x3, x4⟩ res hf hK H locs ls hP hD hS hl
    unfold p_X7_eggsNow_L5 at hf
    dsimp only at hf
    refine lv_iload hx hb dX7_eggsNow_5 (lv_at hl 4 rfl) ?_
    refine lv_aload_n hx hb dX7_eggsNow_7 rfl (lv_at hl 0 rfl) ?_
    refine va_get (C := RX7) (T := TX7) (N := 34) (ci := 7) (v := .int (f 0 0)) hx hb hts inX7 hown hT hP 0 rfl rfl 1 (Nat.le_of_ble_eq_true rfl) lk128 (fun _ h => h) rfl dX7_eggsNow_8 ?_
    refine lv_icmp_ge (tgt := 42) hx hb dX7_eggsNow_11 (by decide) (fun hc => ?_) (fun hc => ?_)
    · have hf := if_t hf hc
      have hK9 := K_of hf hK
      have hK9 := hX5 _ hK9
      exact hK9 _ _ _ hP hD hS (lv_sub hl [3] rfl)
    · have hf := if_f hf hc
      refine lv_iload_n hx hb dX7_eggsNow_14 rfl (lv_at hl 3 rfl) ?_
      refine lv_aload_n hx hb dX7_eggsNow_15 rfl (lv_at hl 0 rfl) ?_
      refine lv_iload_n hx hb dX7_eggsNow_16 rfl (lv_at hl 1 rfl) ?_
      refine lv_iload hx hb dX7_eggsNow_17 (lv_at hl 4 rfl) ?_
      obtain ⟨r19, hc19, hf⟩ := bd_e hf
      refine cl_i_same (Wd := (wX7 G ad f)) (W' := (wX7 G ad f)) (va_runV (As := [.int x1, .int x4]) (rest := [.int x3]) hC (c_X7_eggOn l G ad f x1 x4 r19 hc19 _) (cwV 2 hts gX7_eggsNow_X7_eggOn rfl rfl rfl (by decide +kernel) ⟨Nat.le_of_ble_eq_true rfl, Nat.le_of_ble_eq_true rfl⟩) ⟨Pc0_blind, va_recv hT hP (q0 := 0) (ci := 7) rfl rfl, fun U hU hW => Pc0_at hE hP hD hU hW⟩ rfl rfl hl.1 rfl (lv_room (Nat.le_of_ble_eq_true rfl)) dX7_eggsNow_19 ⟨Nat.zero_le _, Nat.zero_le _⟩) hS hA hD (fun H locs hP hD hS => ?_)
      refine lv_iload_n hx hb dX7_eggsNow_22 rfl (lv_at hl 2 rfl) ?_
      refine lv_icmp_ne (tgt := 33) hx hb dX7_eggsNow_23 (by decide) (fun hc => ?_) (fun hc => ?_)
      · have hf := if_f hf hc
        refine lv_iconst (v := (nI 0)) hx hb dX7_eggsNow_33 (ic_0) ?_
        exact hB34 x4 (nI 0) x3 _ hf hK _ _ _ hP hD hS (lv_sub hl [0, 1, 2, 4] rfl)
      · have hf := if_t hf hc
        refine lv_iconst (v := (nI 1)) hx hb dX7_eggsNow_26 (ic_1) ?_
        refine lv_iload hx hb dX7_eggsNow_27 (lv_at hl 4 rfl) ?_
        refine lv_ishl hx hb dX7_eggsNow_29 ?_
        refine lv_goto (tgt := 34) hx hb dX7_eggsNow_30 (by decide) ?_
        exact hB34 x4 ((nI 1) <<< (x4 &&& 31)) x3 _ hf hK _ _ _ hP hD hS (lv_sub hl [0, 1, 2, 4] rfl)
  · try dsimp only at hf
    show ∀ (H : Heap) (locs : List Loc) (ls : Array Slot), va_P G.1 vwCl (wX7 G ad f) H → va_D A (wX7 G ad f) → va_S A s.heap H locs → lv_has ls 5 [(3, .int y3_5)] → W p l e ({ frames := 4, cells := 0, slots := 0, locals := 83 }) s m args below meth c H locs 0 0 Q (F0 m 42 ls [])
    intro H locs ls hP hD hS hl
    refine lv_iload_n hx hb dX7_eggsNow_42 rfl (lv_at hl 0 rfl) ?_
    have hK9 := K0_of hf hK
    exact hRet y3_5 _ _ _ _ hK9 dX7_eggsNow_43 hP hD hS
noncomputable def p_X7_worthOn_L10 (f : Mem) (x1 : Int32) (x2 : Int32) (z : Int32 × Int32) : Option ((Int32 × Int32) ⊕ Int32) :=
  match z with
  | (x3, x4) =>
    if (f 0 0) ≤ x4 then
      (some (Sum.inr x3))
    else
      (Option.bind (p_X7_shareOn f x1 x4 x2) <| fun r25 =>
       gd (inb ((x1 + (nI 6)) + x4) 360) <|
       some (Sum.inl ((x3 + (r25 * (f 1 ((x1 + (nI 6)) + x4).toNatClampNeg))), (x4 + nI 1))))
noncomputable def p_X7_worthOn (f : Mem) (x1 : Int32) (x2 : Int32) : Option (Int32) :=
  Option.bind (p_X7_moneyOn f x1 x2) <| fun r3 =>
  Option.bind (lp (p_X7_worthOn_L10 f x1 x2) (r3, (nI 0))) <| fun y3_10 =>
  some y3_10
set_option maxHeartbeats 4000000 in
set_option maxRecDepth 100000 in
theorem c_X7_worthOn (l : Launch) (G : Gt) (ad : Nat → Nat) (f : Mem) (x1 : Int32) (x2 : Int32) (r : Int32) (hf : p_X7_worthOn f x1 x2 = some r) (sz : Nat) : Met l yX7_worthOn wsX7_worthOn ({ frames := 2, cells := 0, slots := 0, locals := 35 }) (Pc0 G sz [.ref (ad 0), .int x1, .int x2] (wX7 G ad f)) (Qi0 G (va_A (wX7 G ad f) sz) r (wX7 G ad f)) 0 0 (va_A (wX7 G ad f) sz) := by
  refine metP (Qf := fun A => Qi0 G A r (wX7 G ad f)) cX7_worthOn 5 (some .int) (by decide) rfl (Nat.le_of_ble_eq_true rfl) ?_
  intro p e s m below meth c A ls hC hr hlocks hin hE hA hsz hP hD hS hl
  generalize hargs : ([.ref (ad 0), .int x1, .int x2] : List Value).toArray = args at hC ⊢
  obtain ⟨hx, hb, hml, hown, hts⟩ := id hC
  have hT : va_K G.1 vwCl (tyL G) s := hE.1
  have hRet : ∀ (r9 : Int32) (H : Heap) (locs : List Loc) (ls : Array Slot) (pc : Nat) (hK9 : r9 = r) (hdg : decode cX7_worthOn pc = .ok (.ireturn, 1)), va_P G.1 vwCl (wX7 G ad f) H → va_D A (wX7 G ad f) → va_S A s.heap H locs → W p l e ({ frames := 2, cells := 0, slots := 0, locals := 35 }) s m args below meth c H locs 0 0 (MQ below (Qi0 G A r (wX7 G ad f)) args s 0 0 A) (F0 m pc ls [.int r9]) := by
    intro r9 H locs ls pc hK9 hdg hP hD hS
    cases hK9
    exact W.iret hx hb hr (fun t ht hW => ⟨⟨r, (), rfl, rfl, by rw [ht]; exact hP, hD⟩, hS.F ht⟩) hS.2.2 hdg hlocks
  generalize MQ below (Qi0 G A r (wX7 G ad f)) args s 0 0 A = Q at hRet ⊢
  have lk128 := hts (.fieldLink RX7 128 "FeatherSharesModel" "gooseMany" "I") (by decide +kernel)
  have inX7 : ∀ w ∈ u_ws RX7 TX7 34, w ∈ wsX7_worthOn := by decide +kernel
  have lk7 := hts (.fieldLink RX7 7 "FeatherSharesModel" "state" "[I") (by decide +kernel)
  have hl : lv_has ls 5 [(0, .ref (ad 0)), (1, .int x1), (2, .int x2)] := hl
  have hK0 : r = r := rfl
  obtain ⟨res, hres, hK⟩ : ∃ res, p_X7_worthOn f x1 x2 = some res ∧ res = r := ⟨_, hf, rfl⟩
  clear hf
  have hf := hres
  clear hres
  unfold p_X7_worthOn at hf
  refine lv_aload_n hx hb dX7_worthOn_0 rfl (lv_at hl 0 rfl) ?_
  refine lv_iload_n hx hb dX7_worthOn_1 rfl (lv_at hl 1 rfl) ?_
  refine lv_iload_n hx hb dX7_worthOn_2 rfl (lv_at hl 2 rfl) ?_
  obtain ⟨r3, hc3, hf⟩ := bd_e hf
  refine cl_i_same (Wd := (wX7 G ad f)) (W' := (wX7 G ad f)) (va_runV (As := [.int x1, .int x2]) (rest := []) hC (c_X7_moneyOn l G ad f x1 x2 r3 hc3 _) (cwV 2 hts gX7_worthOn_X7_moneyOn rfl rfl rfl (by decide +kernel) ⟨Nat.le_of_ble_eq_true rfl, Nat.le_of_ble_eq_true rfl⟩) ⟨Pc0_blind, va_recv hT hP (q0 := 0) (ci := 7) rfl rfl, fun U hU hW => Pc0_at hE hP hD hU hW⟩ rfl rfl hl.1 rfl (lv_room (Nat.le_of_ble_eq_true rfl)) dX7_worthOn_3 ⟨Nat.zero_le _, Nat.zero_le _⟩) hS hA hD (fun H locs hP hD hS => ?_)
  refine lv_istore_n (lv' := [(3, .int r3), (0, .ref (ad 0)), (1, .int x1), (2, .int x2)]) hx hb dX7_worthOn_6 rfl hl (by decide) rfl (fun ls hl => ?_)
  refine lv_iconst (v := (nI 0)) hx hb dX7_worthOn_7 (ic_0) ?_
  refine lv_istore (lv' := [(4, .int (nI 0)), (3, .int r3), (0, .ref (ad 0)), (1, .int x1), (2, .int x2)]) hx hb dX7_worthOn_8 hl (by decide) rfl (fun ls hl => ?_)
  obtain ⟨y3_10, hlp, hf⟩ := bd_e hf
  refine lp_W1 (p_X7_worthOn_L10 f x1 x2) (fun z => match z with | (x3, x4) => ∀ (H : Heap) (locs : List Loc) (ls : Array Slot), va_P G.1 vwCl (wX7 G ad f) H → va_D A (wX7 G ad f) → va_S A s.heap H locs → lv_has ls 5 [(0, .ref (ad 0)), (1, .int x1), (2, .int x2), (3, .int x3), (4, .int x4)] → W p l e ({ frames := 2, cells := 0, slots := 0, locals := 35 }) s m args below meth c H locs 0 0 Q (F0 m 10 ls [])) (fun (y3_10 : Int32) => ∀ (H : Heap) (locs : List Loc) (ls : Array Slot), va_P G.1 vwCl (wX7 G ad f) H → va_D A (wX7 G ad f) → va_S A s.heap H locs → lv_has ls 5 [(3, .int y3_10)] → W p l e ({ frames := 2, cells := 0, slots := 0, locals := 35 }) s m args below meth c H locs 0 0 Q (F0 m 49 ls [])) ?_ hlp ?_ _ _ _ hP hD hS (lv_sub hl [2, 3, 4, 1, 0] rfl)
  · clear hlp hf hK hP hD hS hl
    intro K10 hW10 hX10 
    rintro ⟨x3, x4⟩ res hf hK H locs ls hP hD hS hl
    unfold p_X7_worthOn_L10 at hf
    dsimp only at hf
    refine lv_iload hx hb dX7_worthOn_10 (lv_at hl 4 rfl) ?_
    refine lv_aload_n hx hb dX7_worthOn_12 rfl (lv_at hl 0 rfl) ?_
    refine va_get (C := RX7) (T := TX7) (N := 34) (ci := 7) (v := .int (f 0 0)) hx hb hts inX7 hown hT hP 0 rfl rfl 1 (Nat.le_of_ble_eq_true rfl) lk128 (fun _ h => h) rfl dX7_worthOn_13 ?_
    refine lv_icmp_ge (tgt := 49) hx hb dX7_worthOn_16 (by decide) (fun hc => ?_) (fun hc => ?_)
    · have hf := if_t hf hc
      have hK9 := K_of hf hK
      have hK9 := hX10 _ hK9
      exact hK9 _ _ _ hP hD hS (lv_sub hl [3] rfl)
    · have hf := if_f hf hc
      refine lv_iload_n hx hb dX7_worthOn_19 rfl (lv_at hl 3 rfl) ?_
      refine lv_aload_n hx hb dX7_worthOn_20 rfl (lv_at hl 0 rfl) ?_
      refine lv_iload_n hx hb dX7_worthOn_21 rfl (lv_at hl 1 rfl) ?_
      refine lv_iload hx hb dX7_worthOn_22 (lv_at hl 4 rfl) ?_
      refine lv_iload_n hx hb dX7_worthOn_24 rfl (lv_at hl 2 rfl) ?_
      obtain ⟨r25, hc25, hf⟩ := bd_e hf
      refine cl_i_same (Wd := (wX7 G ad f)) (W' := (wX7 G ad f)) (va_runV (As := [.int x1, .int x4, .int x2]) (rest := [.int x3]) hC (c_X7_shareOn l G ad f x1 x4 x2 r25 hc25 _) (cwV 3 hts gX7_worthOn_X7_shareOn rfl rfl rfl (by decide +kernel) ⟨Nat.le_of_ble_eq_true rfl, Nat.le_of_ble_eq_true rfl⟩) ⟨Pc0_blind, va_recv hT hP (q0 := 0) (ci := 7) rfl rfl, fun U hU hW => Pc0_at hE hP hD hU hW⟩ rfl rfl hl.1 rfl (lv_room (Nat.le_of_ble_eq_true rfl)) dX7_worthOn_25 ⟨Nat.zero_le _, Nat.zero_le _⟩) hS hA hD (fun H locs hP hD hS => ?_)
      refine lv_aload_n hx hb dX7_worthOn_28 rfl (lv_at hl 0 rfl) ?_
      refine va_get (C := RX7) (T := TX7) (N := 34) (ci := 7) (v := .ref (ad 1)) hx hb hts inX7 hown hT hP 0 rfl rfl 0 (Nat.le_of_ble_eq_true rfl) lk7 (fun _ h => h) rfl dX7_worthOn_29 ?_
      refine lv_iload_n hx hb dX7_worthOn_32 rfl (lv_at hl 1 rfl) ?_
      refine lv_bipush (v := (nI 6)) hx hb dX7_worthOn_33 (bi_6) ?_
      refine lv_iadd hx hb dX7_worthOn_35 ?_
      refine lv_iload hx hb dX7_worthOn_36 (lv_at hl 4 rfl) ?_
      refine lv_iadd hx hb dX7_worthOn_38 ?_
      obtain ⟨hg, hf⟩ := gd_e hf
      refine va_iald (f := f 1) hx hb hT hP 1 0 rfl rfl (inb_e hg) dX7_worthOn_39 ?_
      refine lv_imul hx hb dX7_worthOn_40 ?_
      refine lv_iadd hx hb dX7_worthOn_41 ?_
      refine lv_istore_n (lv' := [(3, .int (x3 + (r25 * (f 1 ((x1 + (nI 6)) + x4).toNatClampNeg)))), (0, .ref (ad 0)), (1, .int x1), (2, .int x2), (4, .int x4)]) hx hb dX7_worthOn_42 rfl hl (by decide) rfl (fun ls hl => ?_)
      refine lv_iinc (v := (x4 + nI 1)) (lv' := [(4, .int (x4 + nI 1)), (3, .int (x3 + (r25 * (f 1 ((x1 + (nI 6)) + x4).toNatClampNeg)))), (0, .ref (ad 0)), (1, .int x1), (2, .int x2)]) hx hb dX7_worthOn_43 hl (k := 4) rfl (ii_x 1 _) (by decide) rfl (fun ls hl => ?_)
      refine lv_goto (tgt := 10) hx hb dX7_worthOn_46 (by decide) ?_
      have hK9 := K_of hf hK
      have hK9 := hW10 _ hK9
      exact hK9 _ _ _ hP hD hS (lv_sub hl [2, 3, 4, 1, 0] rfl)
  · try dsimp only at hf
    show ∀ (H : Heap) (locs : List Loc) (ls : Array Slot), va_P G.1 vwCl (wX7 G ad f) H → va_D A (wX7 G ad f) → va_S A s.heap H locs → lv_has ls 5 [(3, .int y3_10)] → W p l e ({ frames := 2, cells := 0, slots := 0, locals := 35 }) s m args below meth c H locs 0 0 Q (F0 m 49 ls [])
    intro H locs ls hP hD hS hl
    refine lv_iload_n hx hb dX7_worthOn_49 rfl (lv_at hl 0 rfl) ?_
    have hK9 := K0_of hf hK
    exact hRet y3_10 _ _ _ _ hK9 dX7_worthOn_50 hP hD hS
noncomputable def p_X7_losesOf_B23 (x0 : Int32) (x2 : Int32) (s0 : Int32) : Option (Int32) :=
  if x0 = 0 then
    (some x2)
  else
    (if x0 = (nI 1) then
       (some s0)
     else
       (if x0 = (nI 2) then
          (some (s0 / (nI 2)))
        else
          (if x2 ≤ 0 then
             (some (nI 0))
           else
             (some (x2 - (nI 1))))))
noncomputable def p_X7_losesOf (x0 : Int32) (x1 : Int32) : Option (Int32) :=
  if (((nI 2) * (x1 / (nI 8))) + (nI 1)) ≤ x1 then
    (p_X7_losesOf_B23 x0 (x1 / (nI 8)) (((nI 2) * (x1 / (nI 8))) + (nI 1)))
  else
    (p_X7_losesOf_B23 x0 (x1 / (nI 8)) x1)
set_option maxHeartbeats 4000000 in
set_option maxRecDepth 100000 in
theorem c_X7_losesOf (l : Launch) (G : Gt)  (x0 : Int32) (x1 : Int32) (r : Int32) (hf : p_X7_losesOf x0 x1 = some r) (sz : Nat) : Met l yX7_losesOf wsX7_losesOf ({ frames := 1, cells := 0, slots := 0, locals := 12 }) (Pc0 G sz [.int x0, .int x1] ([] : va_W)) (Qi0 G (va_A ([] : va_W) sz) r ([] : va_W)) 0 0 (va_A ([] : va_W) sz) := by
  refine metP (Qf := fun A => Qi0 G A r ([] : va_W)) cX7_losesOf 4 (some .int) (by decide) rfl (Nat.le_of_ble_eq_true rfl) ?_
  intro p e s m below meth c A ls hC hr hlocks hin hE hA hsz hP hD hS hl
  generalize hargs : ([.int x0, .int x1] : List Value).toArray = args at hC ⊢
  obtain ⟨hx, hb, hml, hown, hts⟩ := id hC
  have hT : va_K G.1 vwCl (tyL G) s := hE.1
  have hRet : ∀ (r9 : Int32) (H : Heap) (locs : List Loc) (ls : Array Slot) (pc : Nat) (hK9 : r9 = r) (hdg : decode cX7_losesOf pc = .ok (.ireturn, 1)), va_P G.1 vwCl ([] : va_W) H → va_D A ([] : va_W) → va_S A s.heap H locs → W p l e ({ frames := 1, cells := 0, slots := 0, locals := 12 }) s m args below meth c H locs 0 0 (MQ below (Qi0 G A r ([] : va_W)) args s 0 0 A) (F0 m pc ls [.int r9]) := by
    intro r9 H locs ls pc hK9 hdg hP hD hS
    cases hK9
    exact W.iret hx hb hr (fun t ht hW => ⟨⟨r, (), rfl, rfl, by rw [ht]; exact hP, hD⟩, hS.F ht⟩) hS.2.2 hdg hlocks
  generalize MQ below (Qi0 G A r ([] : va_W)) args s 0 0 A = Q at hRet ⊢
  have hl : lv_has ls 4 [(0, .int x0), (1, .int x1)] := hl
  have hK0 : r = r := rfl
  have hB23 : ∀ (x0 : Int32) (x2 : Int32) (s0 : Int32) (res : Int32) (hf : p_X7_losesOf_B23 x0 x2 s0 = some res) (hK : res = r), ∀ (H : Heap) (locs : List Loc) (ls : Array Slot), va_P G.1 vwCl ([] : va_W) H → va_D A ([] : va_W) → va_S A s.heap H locs → lv_has ls 4 [(0, .int x0), (2, .int x2)] → W p l e ({ frames := 1, cells := 0, slots := 0, locals := 12 }) s m args below meth c H locs 0 0 Q (F0 m 23 ls [.int s0]) := by
    intro x0 x2 s0 res hf hK H locs ls hP hD hS hl
    unfold p_X7_losesOf_B23 at hf
    refine lv_istore_n (lv' := [(3, .int s0), (0, .int x0), (2, .int x2)]) hx hb dX7_losesOf_23 rfl hl (by decide) rfl (fun ls hl => ?_)
    refine lv_iload_n hx hb dX7_losesOf_24 rfl (lv_at hl 1 rfl) ?_
    refine lv_if_ne (tgt := 32) hx hb dX7_losesOf_25 (by decide) (fun hc => ?_) (fun hc => ?_)
    · have hf := if_f hf hc
      refine lv_iload_n hx hb dX7_losesOf_32 rfl (lv_at hl 1 rfl) ?_
      refine lv_iconst (v := (nI 1)) hx hb dX7_losesOf_33 (ic_1) ?_
      refine lv_icmp_ne (tgt := 41) hx hb dX7_losesOf_34 (by decide) (fun hc => ?_) (fun hc => ?_)
      · have hf := if_f hf hc
        refine lv_iload_n hx hb dX7_losesOf_41 rfl (lv_at hl 1 rfl) ?_
        refine lv_iconst (v := (nI 2)) hx hb dX7_losesOf_42 (ic_2) ?_
        refine lv_icmp_ne (tgt := 52) hx hb dX7_losesOf_43 (by decide) (fun hc => ?_) (fun hc => ?_)
        · have hf := if_f hf hc
          refine lv_iload_n hx hb dX7_losesOf_52 rfl (lv_at hl 2 rfl) ?_
          refine lv_if_le (tgt := 62) hx hb dX7_losesOf_53 (by decide) (fun hc => ?_) (fun hc => ?_)
          · have hf := if_t hf hc
            refine lv_iconst (v := (nI 0)) hx hb dX7_losesOf_62 (ic_0) ?_
            have hK9 := K0_of hf hK
            exact hRet (nI 0) _ _ _ _ hK9 dX7_losesOf_63 hP hD hS
          · have hf := if_f hf hc
            refine lv_iload_n hx hb dX7_losesOf_56 rfl (lv_at hl 2 rfl) ?_
            refine lv_iconst (v := (nI 1)) hx hb dX7_losesOf_57 (ic_1) ?_
            refine lv_isub hx hb dX7_losesOf_58 ?_
            refine lv_goto (tgt := 63) hx hb dX7_losesOf_59 (by decide) ?_
            have hK9 := K0_of hf hK
            exact hRet (x2 - (nI 1)) _ _ _ _ hK9 dX7_losesOf_63 hP hD hS
        · have hf := if_t hf hc
          refine lv_iload_n hx hb dX7_losesOf_46 rfl (lv_at hl 0 rfl) ?_
          refine lv_iconst (v := (nI 2)) hx hb dX7_losesOf_47 (ic_2) ?_
          refine lv_idiv hx hb dX7_losesOf_48 (by decide) ?_
          refine lv_goto (tgt := 63) hx hb dX7_losesOf_49 (by decide) ?_
          have hK9 := K0_of hf hK
          exact hRet (s0 / (nI 2)) _ _ _ _ hK9 dX7_losesOf_63 hP hD hS
      · have hf := if_t hf hc
        refine lv_iload_n hx hb dX7_losesOf_37 rfl (lv_at hl 0 rfl) ?_
        refine lv_goto (tgt := 63) hx hb dX7_losesOf_38 (by decide) ?_
        have hK9 := K0_of hf hK
        exact hRet s0 _ _ _ _ hK9 dX7_losesOf_63 hP hD hS
    · have hf := if_t hf hc
      refine lv_iload_n hx hb dX7_losesOf_28 rfl (lv_at hl 2 rfl) ?_
      refine lv_goto (tgt := 63) hx hb dX7_losesOf_29 (by decide) ?_
      have hK9 := K0_of hf hK
      exact hRet x2 _ _ _ _ hK9 dX7_losesOf_63 hP hD hS
  obtain ⟨res, hres, hK⟩ : ∃ res, p_X7_losesOf x0 x1 = some res ∧ res = r := ⟨_, hf, rfl⟩
  clear hf
  have hf := hres
  clear hres
  unfold p_X7_losesOf at hf
  refine lv_iload_n hx hb dX7_losesOf_0 rfl (lv_at hl 1 rfl) ?_
  refine lv_bipush (v := (nI 8)) hx hb dX7_losesOf_1 (bi_8) ?_
  refine lv_idiv hx hb dX7_losesOf_3 (by decide) ?_
  refine lv_istore_n (lv' := [(2, .int (x1 / (nI 8))), (0, .int x0), (1, .int x1)]) hx hb dX7_losesOf_4 rfl hl (by decide) rfl (fun ls hl => ?_)
  refine lv_iconst (v := (nI 2)) hx hb dX7_losesOf_5 (ic_2) ?_
  refine lv_iload_n hx hb dX7_losesOf_6 rfl (lv_at hl 0 rfl) ?_
  refine lv_imul hx hb dX7_losesOf_7 ?_
  refine lv_iconst (v := (nI 1)) hx hb dX7_losesOf_8 (ic_1) ?_
  refine lv_iadd hx hb dX7_losesOf_9 ?_
  refine lv_iload_n hx hb dX7_losesOf_10 rfl (lv_at hl 2 rfl) ?_
  refine lv_icmp_le (tgt := 18) hx hb dX7_losesOf_11 (by decide) (fun hc => ?_) (fun hc => ?_)
  · have hf := if_t hf hc
    refine lv_iconst (v := (nI 2)) hx hb dX7_losesOf_18 (ic_2) ?_
    refine lv_iload_n hx hb dX7_losesOf_19 rfl (lv_at hl 0 rfl) ?_
    refine lv_imul hx hb dX7_losesOf_20 ?_
    refine lv_iconst (v := (nI 1)) hx hb dX7_losesOf_21 (ic_1) ?_
    refine lv_iadd hx hb dX7_losesOf_22 ?_
    exact hB23 x0 (x1 / (nI 8)) (((nI 2) * (x1 / (nI 8))) + (nI 1)) _ hf hK _ _ _ hP hD hS (lv_sub hl [1, 0] rfl)
  · have hf := if_f hf hc
    refine lv_iload_n hx hb dX7_losesOf_14 rfl (lv_at hl 2 rfl) ?_
    refine lv_goto (tgt := 23) hx hb dX7_losesOf_15 (by decide) ?_
    exact hB23 x0 (x1 / (nI 8)) x1 _ hf hK _ _ _ hP hD hS (lv_sub hl [1, 0] rfl)
noncomputable def p_X7_moultsOn_B120 (f : Mem) (s0 : Int32) (s1 : Int32) : Option (Mem) :=
  gd (inb s1 360) <|
  bnd (upd (f 1) s1.toNatClampNeg s0) <| fun g120 =>
  some (mrow 1 (g120) f)
noncomputable def p_X7_moultsOn_L5 (x1 : Int32) (x2 : Int32) (z : Int32 × Int32 × Mem) : Option ((Int32 × Int32 × Mem) ⊕ (Int32 × Mem)) :=
  match z with
  | (x3, x4, f_) =>
    if (nI 5) ≤ x4 then
      (some (Sum.inr (x3, f_)))
    else
      (gd (inb (x1 + x2) 360) <|
       Option.bind (p_X7_shareOn f_ x1 x2 x4) <| fun r24 =>
       Option.bind (p_X7_losesOf (f_ 1 (x1 + x2).toNatClampNeg) r24) <| fun r27 =>
       gd (inb (((x1 + (nI 19)) + ((nI 5) * x2)) + x4) 360) <|
       gd (inb (((x1 + (nI 19)) + ((nI 5) * x2)) + x4) 360) <|
       bnd (upd (f_ 1) (((x1 + (nI 19)) + ((nI 5) * x2)) + x4).toNatClampNeg ((f_ 1 (((x1 + (nI 19)) + ((nI 5) * x2)) + x4).toNatClampNeg) - r27)) <| fun g52 =>
       some (Sum.inl ((x3 + r27), (x4 + nI 1), (mrow 1 (g52) f_))))
noncomputable def p_X7_moultsOn (f : Mem) (x1 : Int32) (x2 : Int32) : Option (Mem) :=
  Option.bind (lp (p_X7_moultsOn_L5 x1 x2) ((nI 0), (nI 0), f)) <| fun (y3_5, f_5) =>
  gd (inb ((x1 + (nI 3)) + x2) 360) <|
  gd (inb (((x1 + (nI 19)) + ((nI 5) * x2)) + (f_5 1 ((x1 + (nI 3)) + x2).toNatClampNeg)) 360) <|
  if ((f_5 1 (((x1 + (nI 19)) + ((nI 5) * x2)) + (f_5 1 ((x1 + (nI 3)) + x2).toNatClampNeg)).toNatClampNeg) + ((y3_5 + (nI 1)) / (nI 2))) ≤ (nI 99) then
    (p_X7_moultsOn_B120 f_5 ((f_5 1 (((x1 + (nI 19)) + ((nI 5) * x2)) + (f_5 1 ((x1 + (nI 3)) + x2).toNatClampNeg)).toNatClampNeg) + ((y3_5 + (nI 1)) / (nI 2))) (((x1 + (nI 19)) + ((nI 5) * x2)) + (f_5 1 ((x1 + (nI 3)) + x2).toNatClampNeg)))
  else
    (p_X7_moultsOn_B120 f_5 (nI 99) (((x1 + (nI 19)) + ((nI 5) * x2)) + (f_5 1 ((x1 + (nI 3)) + x2).toNatClampNeg)))
set_option maxHeartbeats 4000000 in
set_option maxRecDepth 100000 in
theorem c_X7_moultsOn (l : Launch) (G : Gt) (ad : Nat → Nat) (f : Mem) (x1 : Int32) (x2 : Int32) (fz : Mem) (hf : p_X7_moultsOn f x1 x2 = some fz) (sz : Nat) : Met l yX7_moultsOn wsX7_moultsOn ({ frames := 2, cells := 0, slots := 0, locals := 35 }) (Pc0 G sz [.ref (ad 0), .int x1, .int x2] (wX7 G ad f)) (Qv0 G (va_A (wX7 G ad f) sz) (wX7 G ad fz)) 0 0 (va_A (wX7 G ad f) sz) := by
  refine metP (Qf := fun A => Qv0 G A (wX7 G ad fz)) cX7_moultsOn 6 (none) (by decide) rfl (Nat.le_of_ble_eq_true rfl) ?_
  intro p e s m below meth c A ls hC hr hlocks hin hE hA hsz hP hD hS hl
  generalize hargs : ([.ref (ad 0), .int x1, .int x2] : List Value).toArray = args at hC ⊢
  obtain ⟨hx, hb, hml, hown, hts⟩ := id hC
  have hT : va_K G.1 vwCl (tyL G) s := hE.1
  have hRet : ∀ (f9 : Mem) (H : Heap) (locs : List Loc) (ls : Array Slot) (pc : Nat) (hK9 : f9 = fz) (hdg : decode cX7_moultsOn pc = .ok (.return_, 1)), va_P G.1 vwCl (wX7 G ad f9) H → va_D A (wX7 G ad f9) → va_S A s.heap H locs → W p l e ({ frames := 2, cells := 0, slots := 0, locals := 35 }) s m args below meth c H locs 0 0 (MQ below (Qv0 G A (wX7 G ad fz)) args s 0 0 A) (F0 m pc ls []) := by
    intro f9 H locs ls pc hK9 hdg hP hD hS
    cases hK9
    exact W.vret hx hb hr (fun t ht hW => ⟨⟨(), rfl, trivial, by rw [ht]; exact hP, hD⟩, hS.F ht⟩) hS.2.2 hdg hlocks
  generalize MQ below (Qv0 G A (wX7 G ad fz)) args s 0 0 A = Q at hRet ⊢
  have lk7 := hts (.fieldLink RX7 7 "FeatherSharesModel" "state" "[I") (by decide +kernel)
  have inX7 : ∀ w ∈ u_ws RX7 TX7 34, w ∈ wsX7_moultsOn := by decide +kernel
  have hl : lv_has ls 6 [(0, .ref (ad 0)), (1, .int x1), (2, .int x2)] := hl
  have hK0 : fz = fz := rfl
  have hB120 : ∀ (f : Mem) (s0 : Int32) (s1 : Int32) (res : Mem) (hf : p_X7_moultsOn_B120 f s0 s1 = some res) (hK : res = fz), ∀ (H : Heap) (locs : List Loc) (ls : Array Slot), va_P G.1 vwCl (wX7 G ad f) H → va_D A (wX7 G ad f) → va_S A s.heap H locs → lv_has ls 6 [] → W p l e ({ frames := 2, cells := 0, slots := 0, locals := 35 }) s m args below meth c H locs 0 0 Q (F0 m 120 ls [.int s0, .int s1, .ref (ad 1)]) := by
    intro f s0 s1 res hf hK H locs ls hP hD hS hl
    unfold p_X7_moultsOn_B120 at hf
    obtain ⟨hg, hf⟩ := gd_e hf
    obtain ⟨g120, eg120, hf⟩ := bnd_e hf
    refine va_iast (f := f 1) hx hb hT hP hD hS 1 0 rfl rfl (inb_e hg) dX7_moultsOn_120 (fun H locs hP hD hS => ?_)
    rw [← eg120] at hP hD
    have hP : va_P G.1 vwCl (wX7 G ad (mrow 1 (g120) f)) H := hP
    have hD : va_D A (wX7 G ad (mrow 1 (g120) f)) := hD
    have hK9 := K0_of hf hK
    exact hRet (mrow 1 (g120) f) _ _ _ _ hK9 dX7_moultsOn_121 hP hD hS
  obtain ⟨res, hres, hK⟩ : ∃ res, p_X7_moultsOn f x1 x2 = some res ∧ res = fz := ⟨_, hf, rfl⟩
  clear hf
  have hf := hres
  clear hres
  unfold p_X7_moultsOn at hf
  refine lv_iconst (v := (nI 0)) hx hb dX7_moultsOn_0 (ic_0) ?_
  refine lv_istore_n (lv' := [(3, .int (nI 0)), (0, .ref (ad 0)), (1, .int x1), (2, .int x2)]) hx hb dX7_moultsOn_1 rfl hl (by decide) rfl (fun ls hl => ?_)
  refine lv_iconst (v := (nI 0)) hx hb dX7_moultsOn_2 (ic_0) ?_
  refine lv_istore (lv' := [(4, .int (nI 0)), (3, .int (nI 0)), (0, .ref (ad 0)), (1, .int x1), (2, .int x2)]) hx hb dX7_moultsOn_3 hl (by decide) rfl (fun ls hl => ?_)
  obtain ⟨⟨y3_5, f_5⟩, hlp, hf⟩ := bd_e hf
  refine lp_W1 (p_X7_moultsOn_L5 x1 x2) (fun z => match z with | (x3, x4, f_) => ∀ (H : Heap) (locs : List Loc) (ls : Array Slot), va_P G.1 vwCl (wX7 G ad f_) H → va_D A (wX7 G ad f_) → va_S A s.heap H locs → lv_has ls 6 [(0, .ref (ad 0)), (1, .int x1), (2, .int x2), (3, .int x3), (4, .int x4)] → W p l e ({ frames := 2, cells := 0, slots := 0, locals := 35 }) s m args below meth c H locs 0 0 Q (F0 m 5 ls [])) (fun z => match z with | (y3_5, f_5) => ∀ (H : Heap) (locs : List Loc) (ls : Array Slot), va_P G.1 vwCl (wX7 G ad f_5) H → va_D A (wX7 G ad f_5) → va_S A s.heap H locs → lv_has ls 6 [(0, .ref (ad 0)), (1, .int x1), (2, .int x2), (3, .int y3_5)] → W p l e ({ frames := 2, cells := 0, slots := 0, locals := 35 }) s m args below meth c H locs 0 0 Q (F0 m 64 ls [])) ?_ hlp ?_ _ _ _ hP hD hS (lv_sub hl [2, 3, 4, 1, 0] rfl)
  · clear hlp hf hK hP hD hS hl
    intro K5 hW5 hX5 
    rintro ⟨x3, x4, f_⟩ res hf hK H locs ls hP hD hS hl
    unfold p_X7_moultsOn_L5 at hf
    dsimp only at hf
    refine lv_iload hx hb dX7_moultsOn_5 (lv_at hl 4 rfl) ?_
    refine lv_iconst (v := (nI 5)) hx hb dX7_moultsOn_7 (ic_5) ?_
    refine lv_icmp_ge (tgt := 64) hx hb dX7_moultsOn_8 (by decide) (fun hc => ?_) (fun hc => ?_)
    · have hf := if_t hf hc
      have hK9 := K_of hf hK
      have hK9 := hX5 _ hK9
      exact hK9 _ _ _ hP hD hS (lv_sub hl [0, 1, 2, 3] rfl)
    · have hf := if_f hf hc
      refine lv_aload_n hx hb dX7_moultsOn_11 rfl (lv_at hl 0 rfl) ?_
      refine va_get (C := RX7) (T := TX7) (N := 34) (ci := 7) (v := .ref (ad 1)) hx hb hts inX7 hown hT hP 0 rfl rfl 0 (Nat.le_of_ble_eq_true rfl) lk7 (fun _ h => h) rfl dX7_moultsOn_12 ?_
      refine lv_iload_n hx hb dX7_moultsOn_15 rfl (lv_at hl 1 rfl) ?_
      refine lv_iload_n hx hb dX7_moultsOn_16 rfl (lv_at hl 2 rfl) ?_
      refine lv_iadd hx hb dX7_moultsOn_17 ?_
      obtain ⟨hg, hf⟩ := gd_e hf
      refine va_iald (f := f_ 1) hx hb hT hP 1 0 rfl rfl (inb_e hg) dX7_moultsOn_18 ?_
      refine lv_aload_n hx hb dX7_moultsOn_19 rfl (lv_at hl 0 rfl) ?_
      refine lv_iload_n hx hb dX7_moultsOn_20 rfl (lv_at hl 1 rfl) ?_
      refine lv_iload_n hx hb dX7_moultsOn_21 rfl (lv_at hl 2 rfl) ?_
      refine lv_iload hx hb dX7_moultsOn_22 (lv_at hl 4 rfl) ?_
      obtain ⟨r24, hc24, hf⟩ := bd_e hf
      refine cl_i_same (Wd := (wX7 G ad f_)) (W' := (wX7 G ad f_)) (va_runV (As := [.int x1, .int x2, .int x4]) (rest := [.int (f_ 1 (x1 + x2).toNatClampNeg)]) hC (c_X7_shareOn l G ad f_ x1 x2 x4 r24 hc24 _) (cwV 3 hts gX7_moultsOn_X7_shareOn rfl rfl rfl (by decide +kernel) ⟨Nat.le_of_ble_eq_true rfl, Nat.le_of_ble_eq_true rfl⟩) ⟨Pc0_blind, va_recv hT hP (q0 := 0) (ci := 7) rfl rfl, fun U hU hW => Pc0_at hE hP hD hU hW⟩ rfl rfl hl.1 rfl (lv_room (Nat.le_of_ble_eq_true rfl)) dX7_moultsOn_24 ⟨Nat.zero_le _, Nat.zero_le _⟩) hS hA hD (fun H locs hP hD hS => ?_)
      obtain ⟨r27, hc27, hf⟩ := bd_e hf
      refine cl_i_ro (Wd := (wX7 G ad f_)) (Wc := ([] : va_W)) [] rfl (va_runS (As := [.int (f_ 1 (x1 + x2).toNatClampNeg), .int r24]) (rest := []) hC (c_X7_losesOf l G (f_ 1 (x1 + x2).toNatClampNeg) r24 r27 hc27 _) (va_cwS 2 hts gX7_moultsOn_X7_losesOf rfl rfl rfl (by decide +kernel) ⟨Nat.le_of_ble_eq_true rfl, Nat.le_of_ble_eq_true rfl⟩) ⟨Pc0_blind, fun U hU hW => Pc0_at (Wd := ([] : va_W)) hE (hP.subm [] rfl) (hD.sub [] (by decide) rfl) hU hW⟩ rfl rfl hl.1 rfl (lv_room (Nat.le_of_ble_eq_true rfl)) dX7_moultsOn_27 ⟨Nat.zero_le _, Nat.zero_le _⟩) hS hA hP hD (fun H locs hP hD hS => ?_)
      refine lv_istore (lv' := [(5, .int r27), (0, .ref (ad 0)), (1, .int x1), (2, .int x2), (3, .int x3), (4, .int x4)]) hx hb dX7_moultsOn_30 hl (by decide) rfl (fun ls hl => ?_)
      refine lv_aload_n hx hb dX7_moultsOn_32 rfl (lv_at hl 1 rfl) ?_
      refine va_get (C := RX7) (T := TX7) (N := 34) (ci := 7) (v := .ref (ad 1)) hx hb hts inX7 hown hT hP 0 rfl rfl 0 (Nat.le_of_ble_eq_true rfl) lk7 (fun _ h => h) rfl dX7_moultsOn_33 ?_
      refine lv_iload_n hx hb dX7_moultsOn_36 rfl (lv_at hl 2 rfl) ?_
      refine lv_bipush (v := (nI 19)) hx hb dX7_moultsOn_37 (bi_19) ?_
      refine lv_iadd hx hb dX7_moultsOn_39 ?_
      refine lv_iconst (v := (nI 5)) hx hb dX7_moultsOn_40 (ic_5) ?_
      refine lv_iload_n hx hb dX7_moultsOn_41 rfl (lv_at hl 3 rfl) ?_
      refine lv_imul hx hb dX7_moultsOn_42 ?_
      refine lv_iadd hx hb dX7_moultsOn_43 ?_
      refine lv_iload hx hb dX7_moultsOn_44 (lv_at hl 5 rfl) ?_
      refine lv_iadd hx hb dX7_moultsOn_46 ?_
      refine lv_dup2_11 hx hb dX7_moultsOn_47 rfl rfl ?_
      obtain ⟨hg, hf⟩ := gd_e hf
      refine va_iald (f := f_ 1) hx hb hT hP 1 0 rfl rfl (inb_e hg) dX7_moultsOn_48 ?_
      refine lv_iload hx hb dX7_moultsOn_49 (lv_at hl 0 rfl) ?_
      refine lv_isub hx hb dX7_moultsOn_51 ?_
      obtain ⟨hg, hf⟩ := gd_e hf
      obtain ⟨g52, eg52, hf⟩ := bnd_e hf
      refine va_iast (f := f_ 1) hx hb hT hP hD hS 1 0 rfl rfl (inb_e hg) dX7_moultsOn_52 (fun H locs hP hD hS => ?_)
      rw [← eg52] at hP hD
      have hP : va_P G.1 vwCl (wX7 G ad (mrow 1 (g52) f_)) H := hP
      have hD : va_D A (wX7 G ad (mrow 1 (g52) f_)) := hD
      refine lv_iload_n hx hb dX7_moultsOn_53 rfl (lv_at hl 4 rfl) ?_
      refine lv_iload hx hb dX7_moultsOn_54 (lv_at hl 0 rfl) ?_
      refine lv_iadd hx hb dX7_moultsOn_56 ?_
      refine lv_istore_n (lv' := [(3, .int (x3 + r27)), (5, .int r27), (0, .ref (ad 0)), (1, .int x1), (2, .int x2), (4, .int x4)]) hx hb dX7_moultsOn_57 rfl hl (by decide) rfl (fun ls hl => ?_)
      refine lv_iinc (v := (x4 + nI 1)) (lv' := [(4, .int (x4 + nI 1)), (3, .int (x3 + r27)), (5, .int r27), (0, .ref (ad 0)), (1, .int x1), (2, .int x2)]) hx hb dX7_moultsOn_58 hl (k := 5) rfl (ii_x 1 _) (by decide) rfl (fun ls hl => ?_)
      refine lv_goto (tgt := 5) hx hb dX7_moultsOn_61 (by decide) ?_
      have hK9 := K_of hf hK
      have hK9 := hW5 _ hK9
      exact hK9 _ _ _ hP hD hS (lv_sub hl [3, 4, 5, 1, 0] rfl)
  · try dsimp only at hf
    show ∀ (H : Heap) (locs : List Loc) (ls : Array Slot), va_P G.1 vwCl (wX7 G ad f_5) H → va_D A (wX7 G ad f_5) → va_S A s.heap H locs → lv_has ls 6 [(0, .ref (ad 0)), (1, .int x1), (2, .int x2), (3, .int y3_5)] → W p l e ({ frames := 2, cells := 0, slots := 0, locals := 35 }) s m args below meth c H locs 0 0 Q (F0 m 64 ls [])
    intro H locs ls hP hD hS hl
    refine lv_iload_n hx hb dX7_moultsOn_64 rfl (lv_at hl 1 rfl) ?_
    refine lv_bipush (v := (nI 19)) hx hb dX7_moultsOn_65 (bi_19) ?_
    refine lv_iadd hx hb dX7_moultsOn_67 ?_
    refine lv_iconst (v := (nI 5)) hx hb dX7_moultsOn_68 (ic_5) ?_
    refine lv_iload_n hx hb dX7_moultsOn_69 rfl (lv_at hl 2 rfl) ?_
    refine lv_imul hx hb dX7_moultsOn_70 ?_
    refine lv_iadd hx hb dX7_moultsOn_71 ?_
    refine lv_aload_n hx hb dX7_moultsOn_72 rfl (lv_at hl 0 rfl) ?_
    refine va_get (C := RX7) (T := TX7) (N := 34) (ci := 7) (v := .ref (ad 1)) hx hb hts inX7 hown hT hP 0 rfl rfl 0 (Nat.le_of_ble_eq_true rfl) lk7 (fun _ h => h) rfl dX7_moultsOn_73 ?_
    refine lv_iload_n hx hb dX7_moultsOn_76 rfl (lv_at hl 1 rfl) ?_
    refine lv_iconst (v := (nI 3)) hx hb dX7_moultsOn_77 (ic_3) ?_
    refine lv_iadd hx hb dX7_moultsOn_78 ?_
    refine lv_iload_n hx hb dX7_moultsOn_79 rfl (lv_at hl 2 rfl) ?_
    refine lv_iadd hx hb dX7_moultsOn_80 ?_
    obtain ⟨hg, hf⟩ := gd_e hf
    refine va_iald (f := f_5 1) hx hb hT hP 1 0 rfl rfl (inb_e hg) dX7_moultsOn_81 ?_
    refine lv_iadd hx hb dX7_moultsOn_82 ?_
    refine lv_istore (lv' := [(4, .int (((x1 + (nI 19)) + ((nI 5) * x2)) + (f_5 1 ((x1 + (nI 3)) + x2).toNatClampNeg))), (0, .ref (ad 0)), (1, .int x1), (2, .int x2), (3, .int y3_5)]) hx hb dX7_moultsOn_83 hl (by decide) rfl (fun ls hl => ?_)
    refine lv_aload_n hx hb dX7_moultsOn_85 rfl (lv_at hl 1 rfl) ?_
    refine va_get (C := RX7) (T := TX7) (N := 34) (ci := 7) (v := .ref (ad 1)) hx hb hts inX7 hown hT hP 0 rfl rfl 0 (Nat.le_of_ble_eq_true rfl) lk7 (fun _ h => h) rfl dX7_moultsOn_86 ?_
    refine lv_iload hx hb dX7_moultsOn_89 (lv_at hl 0 rfl) ?_
    obtain ⟨hg, hf⟩ := gd_e hf
    refine va_iald (f := f_5 1) hx hb hT hP 1 0 rfl rfl (inb_e hg) dX7_moultsOn_91 ?_
    refine lv_iload_n hx hb dX7_moultsOn_92 rfl (lv_at hl 4 rfl) ?_
    refine lv_iconst (v := (nI 1)) hx hb dX7_moultsOn_93 (ic_1) ?_
    refine lv_iadd hx hb dX7_moultsOn_94 ?_
    refine lv_iconst (v := (nI 2)) hx hb dX7_moultsOn_95 (ic_2) ?_
    refine lv_idiv hx hb dX7_moultsOn_96 (by decide) ?_
    refine lv_iadd hx hb dX7_moultsOn_97 ?_
    refine lv_istore (lv' := [(5, .int ((f_5 1 (((x1 + (nI 19)) + ((nI 5) * x2)) + (f_5 1 ((x1 + (nI 3)) + x2).toNatClampNeg)).toNatClampNeg) + ((y3_5 + (nI 1)) / (nI 2)))), (4, .int (((x1 + (nI 19)) + ((nI 5) * x2)) + (f_5 1 ((x1 + (nI 3)) + x2).toNatClampNeg))), (0, .ref (ad 0)), (1, .int x1), (2, .int x2), (3, .int y3_5)]) hx hb dX7_moultsOn_98 hl (by decide) rfl (fun ls hl => ?_)
    refine lv_aload_n hx hb dX7_moultsOn_100 rfl (lv_at hl 2 rfl) ?_
    refine va_get (C := RX7) (T := TX7) (N := 34) (ci := 7) (v := .ref (ad 1)) hx hb hts inX7 hown hT hP 0 rfl rfl 0 (Nat.le_of_ble_eq_true rfl) lk7 (fun _ h => h) rfl dX7_moultsOn_101 ?_
    refine lv_iload hx hb dX7_moultsOn_104 (lv_at hl 1 rfl) ?_
    refine lv_iload hx hb dX7_moultsOn_106 (lv_at hl 0 rfl) ?_
    refine lv_bipush (v := (nI 99)) hx hb dX7_moultsOn_108 (bi_99) ?_
    refine lv_icmp_le (tgt := 118) hx hb dX7_moultsOn_110 (by decide) (fun hc => ?_) (fun hc => ?_)
    · have hf := if_t hf hc
      refine lv_iload hx hb dX7_moultsOn_118 (lv_at hl 0 rfl) ?_
      exact hB120 f_5 ((f_5 1 (((x1 + (nI 19)) + ((nI 5) * x2)) + (f_5 1 ((x1 + (nI 3)) + x2).toNatClampNeg)).toNatClampNeg) + ((y3_5 + (nI 1)) / (nI 2))) (((x1 + (nI 19)) + ((nI 5) * x2)) + (f_5 1 ((x1 + (nI 3)) + x2).toNatClampNeg)) _ hf hK _ _ _ hP hD hS (lv_sub hl [] rfl)
    · have hf := if_f hf hc
      refine lv_bipush (v := (nI 99)) hx hb dX7_moultsOn_113 (bi_99) ?_
      refine lv_goto (tgt := 120) hx hb dX7_moultsOn_115 (by decide) ?_
      exact hB120 f_5 (nI 99) (((x1 + (nI 19)) + ((nI 5) * x2)) + (f_5 1 ((x1 + (nI 3)) + x2).toNatClampNeg)) _ hf hK _ _ _ hP hD hS (lv_sub hl [] rfl)
noncomputable def p_X7_weekOn_B49 (f_ : Mem) (x1 : Int32) (x2 : Int32) (x3 : Int32) (x4 : Int32) : Option ((Int32 × Int32 × Mem) ⊕ (Int32 × Mem)) :=
  if x2 = 0 then
    (some (Sum.inl (x3, (x4 + nI 1), f_)))
  else
    (Option.bind (p_X7_moultsOn f_ x1 x4) <| fun f_57 =>
     some (Sum.inl (x3, (x4 + nI 1), f_57)))
noncomputable def p_X7_weekOn_L5 (x1 : Int32) (x2 : Int32) (z : Int32 × Int32 × Mem) : Option ((Int32 × Int32 × Mem) ⊕ (Int32 × Mem)) :=
  match z with
  | (x3, x4, f_) =>
    if (f_ 0 0) ≤ x4 then
      (some (Sum.inr (x3, f_)))
    else
      (Option.bind (p_X7_eggOn f_ x1 x4) <| fun r18 =>
       if r18 = (-4 : Int32) then
         (p_X7_weekOn_B49 f_ x1 x2 x3 x4)
       else
         (gd (inb ((x1 + (nI 14)) + r18) 360) <|
          gd (inb ((x1 + (nI 14)) + r18) 360) <|
          bnd (upd (f_ 1) ((x1 + (nI 14)) + r18).toNatClampNeg ((f_ 1 ((x1 + (nI 14)) + r18).toNatClampNeg) + (nI 1))) <| fun g45 =>
          p_X7_weekOn_B49 (mrow 1 (g45) f_) x1 x2 (x3 + nI 1) x4))
noncomputable def p_X7_weekOn (f : Mem) (x1 : Int32) (x2 : Int32) : Option (Int32 × Mem) :=
  Option.bind (lp (p_X7_weekOn_L5 x1 x2) ((nI 0), (nI 0), f)) <| fun (y3_5, f_5) =>
  gd (inb (x1 + (nI 34)) 360) <|
  gd (inb (x1 + (nI 34)) 360) <|
  bnd (upd (f_5 1) (x1 + (nI 34)).toNatClampNeg ((f_5 1 (x1 + (nI 34)).toNatClampNeg) + (nI 1))) <| fun g78 =>
  some (y3_5, (mrow 1 (g78) f_5))
set_option maxHeartbeats 4000000 in
set_option maxRecDepth 100000 in
theorem c_X7_weekOn (l : Launch) (G : Gt) (ad : Nat → Nat) (f : Mem) (x1 : Int32) (x2 : Int32) (r : Int32) (fz : Mem) (hf : p_X7_weekOn f x1 x2 = some (r, fz)) (sz : Nat) : Met l yX7_weekOn wsX7_weekOn ({ frames := 4, cells := 0, slots := 0, locals := 83 }) (Pc0 G sz [.ref (ad 0), .int x1, .int x2] (wX7 G ad f)) (Qi0 G (va_A (wX7 G ad f) sz) r (wX7 G ad fz)) 0 0 (va_A (wX7 G ad f) sz) := by
  refine metP (Qf := fun A => Qi0 G A r (wX7 G ad fz)) cX7_weekOn 6 (some .int) (by decide) rfl (Nat.le_of_ble_eq_true rfl) ?_
  intro p e s m below meth c A ls hC hr hlocks hin hE hA hsz hP hD hS hl
  generalize hargs : ([.ref (ad 0), .int x1, .int x2] : List Value).toArray = args at hC ⊢
  obtain ⟨hx, hb, hml, hown, hts⟩ := id hC
  have hT : va_K G.1 vwCl (tyL G) s := hE.1
  have hRet : ∀ (r9 : Int32) (f9 : Mem) (H : Heap) (locs : List Loc) (ls : Array Slot) (pc : Nat) (hK9 : (r9, f9) = (r, fz)) (hdg : decode cX7_weekOn pc = .ok (.ireturn, 1)), va_P G.1 vwCl (wX7 G ad f9) H → va_D A (wX7 G ad f9) → va_S A s.heap H locs → W p l e ({ frames := 4, cells := 0, slots := 0, locals := 83 }) s m args below meth c H locs 0 0 (MQ below (Qi0 G A r (wX7 G ad fz)) args s 0 0 A) (F0 m pc ls [.int r9]) := by
    intro r9 f9 H locs ls pc hK9 hdg hP hD hS
    cases hK9
    exact W.iret hx hb hr (fun t ht hW => ⟨⟨r, (), rfl, rfl, by rw [ht]; exact hP, hD⟩, hS.F ht⟩) hS.2.2 hdg hlocks
  generalize MQ below (Qi0 G A r (wX7 G ad fz)) args s 0 0 A = Q at hRet ⊢
  have lk128 := hts (.fieldLink RX7 128 "FeatherSharesModel" "gooseMany" "I") (by decide +kernel)
  have inX7 : ∀ w ∈ u_ws RX7 TX7 34, w ∈ wsX7_weekOn := by decide +kernel
  have lk7 := hts (.fieldLink RX7 7 "FeatherSharesModel" "state" "[I") (by decide +kernel)
  have hl : lv_has ls 6 [(0, .ref (ad 0)), (1, .int x1), (2, .int x2)] := hl
  have hK0 : (r, fz) = (r, fz) := rfl
  obtain ⟨res, hres, hK⟩ : ∃ res, p_X7_weekOn f x1 x2 = some res ∧ res = (r, fz) := ⟨_, hf, rfl⟩
  clear hf
  have hf := hres
  clear hres
  unfold p_X7_weekOn at hf
  refine lv_iconst (v := (nI 0)) hx hb dX7_weekOn_0 (ic_0) ?_
  refine lv_istore_n (lv' := [(3, .int (nI 0)), (0, .ref (ad 0)), (1, .int x1), (2, .int x2)]) hx hb dX7_weekOn_1 rfl hl (by decide) rfl (fun ls hl => ?_)
  refine lv_iconst (v := (nI 0)) hx hb dX7_weekOn_2 (ic_0) ?_
  refine lv_istore (lv' := [(4, .int (nI 0)), (3, .int (nI 0)), (0, .ref (ad 0)), (1, .int x1), (2, .int x2)]) hx hb dX7_weekOn_3 hl (by decide) rfl (fun ls hl => ?_)
  obtain ⟨⟨y3_5, f_5⟩, hlp, hf⟩ := bd_e hf
  refine lp_W1 (p_X7_weekOn_L5 x1 x2) (fun z => match z with | (x3, x4, f_) => ∀ (H : Heap) (locs : List Loc) (ls : Array Slot), va_P G.1 vwCl (wX7 G ad f_) H → va_D A (wX7 G ad f_) → va_S A s.heap H locs → lv_has ls 6 [(0, .ref (ad 0)), (1, .int x1), (2, .int x2), (3, .int x3), (4, .int x4)] → W p l e ({ frames := 4, cells := 0, slots := 0, locals := 83 }) s m args below meth c H locs 0 0 Q (F0 m 5 ls [])) (fun z => match z with | (y3_5, f_5) => ∀ (H : Heap) (locs : List Loc) (ls : Array Slot), va_P G.1 vwCl (wX7 G ad f_5) H → va_D A (wX7 G ad f_5) → va_S A s.heap H locs → lv_has ls 6 [(0, .ref (ad 0)), (1, .int x1), (3, .int y3_5)] → W p l e ({ frames := 4, cells := 0, slots := 0, locals := 83 }) s m args below meth c H locs 0 0 Q (F0 m 66 ls [])) ?_ hlp ?_ _ _ _ hP hD hS (lv_sub hl [2, 3, 4, 1, 0] rfl)
  · clear hlp hf hK hP hD hS hl
    intro K5 hW5 hX5 
    have hB49 : ∀ (f_ : Mem) (x3 : Int32) (x4 : Int32) (res : (Int32 × Int32 × Mem) ⊕ (Int32 × Mem)) (hf : p_X7_weekOn_B49 f_ x1 x2 x3 x4 = some res) (hK : K5 res), ∀ (H : Heap) (locs : List Loc) (ls : Array Slot), va_P G.1 vwCl (wX7 G ad f_) H → va_D A (wX7 G ad f_) → va_S A s.heap H locs → lv_has ls 6 [(0, .ref (ad 0)), (1, .int x1), (2, .int x2), (3, .int x3), (4, .int x4)] → W p l e ({ frames := 4, cells := 0, slots := 0, locals := 83 }) s m args below meth c H locs 0 0 Q (F0 m 49 ls []) := by
      intro f_ x3 x4 res hf hK H locs ls hP hD hS hl
      unfold p_X7_weekOn_B49 at hf
      refine lv_iload_n hx hb dX7_weekOn_49 rfl (lv_at hl 2 rfl) ?_
      refine lv_if_eq (tgt := 60) hx hb dX7_weekOn_50 (by decide) (fun hc => ?_) (fun hc => ?_)
      · have hf := if_t hf hc
        refine lv_iinc (v := (x4 + nI 1)) (lv' := [(4, .int (x4 + nI 1)), (0, .ref (ad 0)), (1, .int x1), (2, .int x2), (3, .int x3)]) hx hb dX7_weekOn_60 hl (k := 4) rfl (ii_x 1 _) (by decide) rfl (fun ls hl => ?_)
        refine lv_goto (tgt := 5) hx hb dX7_weekOn_63 (by decide) ?_
        have hK9 := K_of hf hK
        have hK9 := hW5 _ hK9
        exact hK9 _ _ _ hP hD hS (lv_sub hl [1, 2, 3, 4, 0] rfl)
      · have hf := if_f hf hc
        refine lv_aload_n hx hb dX7_weekOn_53 rfl (lv_at hl 0 rfl) ?_
        refine lv_iload_n hx hb dX7_weekOn_54 rfl (lv_at hl 1 rfl) ?_
        refine lv_iload hx hb dX7_weekOn_55 (lv_at hl 4 rfl) ?_
        obtain ⟨f_57, hc57, hf⟩ := bd_e hf
        refine cl_v_same (Wd := (wX7 G ad f_)) (W' := (wX7 G ad f_57)) (va_runV (As := [.int x1, .int x4]) (rest := []) hC (c_X7_moultsOn l G ad f_ x1 x4 f_57 hc57 _) (cwV 2 hts gX7_weekOn_X7_moultsOn rfl rfl rfl (by decide +kernel) ⟨Nat.le_of_ble_eq_true rfl, Nat.le_of_ble_eq_true rfl⟩) ⟨Pc0_blind, va_recv hT hP (q0 := 0) (ci := 7) rfl rfl, fun U hU hW => Pc0_at hE hP hD hU hW⟩ rfl rfl hl.1 rfl (lv_room (Nat.le_of_ble_eq_true rfl)) dX7_weekOn_57 ⟨Nat.zero_le _, Nat.zero_le _⟩) hS hA hD (fun H locs hP hD hS => ?_)
        refine lv_iinc (v := (x4 + nI 1)) (lv' := [(4, .int (x4 + nI 1)), (0, .ref (ad 0)), (1, .int x1), (2, .int x2), (3, .int x3)]) hx hb dX7_weekOn_60 hl (k := 4) rfl (ii_x 1 _) (by decide) rfl (fun ls hl => ?_)
        refine lv_goto (tgt := 5) hx hb dX7_weekOn_63 (by decide) ?_
        have hK9 := K_of hf hK
        have hK9 := hW5 _ hK9
        exact hK9 _ _ _ hP hD hS (lv_sub hl [1, 2, 3, 4, 0] rfl)
    rintro ⟨x3, x4, f_⟩ res hf hK H locs ls hP hD hS hl
    unfold p_X7_weekOn_L5 at hf
    dsimp only at hf
    refine lv_iload hx hb dX7_weekOn_5 (lv_at hl 4 rfl) ?_
    refine lv_aload_n hx hb dX7_weekOn_7 rfl (lv_at hl 0 rfl) ?_
    refine va_get (C := RX7) (T := TX7) (N := 34) (ci := 7) (v := .int (f_ 0 0)) hx hb hts inX7 hown hT hP 0 rfl rfl 1 (Nat.le_of_ble_eq_true rfl) lk128 (fun _ h => h) rfl dX7_weekOn_8 ?_
    refine lv_icmp_ge (tgt := 66) hx hb dX7_weekOn_11 (by decide) (fun hc => ?_) (fun hc => ?_)
    · have hf := if_t hf hc
      have hK9 := K_of hf hK
      have hK9 := hX5 _ hK9
      exact hK9 _ _ _ hP hD hS (lv_sub hl [0, 1, 3] rfl)
    · have hf := if_f hf hc
      refine lv_aload_n hx hb dX7_weekOn_14 rfl (lv_at hl 0 rfl) ?_
      refine lv_iload_n hx hb dX7_weekOn_15 rfl (lv_at hl 1 rfl) ?_
      refine lv_iload hx hb dX7_weekOn_16 (lv_at hl 4 rfl) ?_
      obtain ⟨r18, hc18, hf⟩ := bd_e hf
      refine cl_i_same (Wd := (wX7 G ad f_)) (W' := (wX7 G ad f_)) (va_runV (As := [.int x1, .int x4]) (rest := []) hC (c_X7_eggOn l G ad f_ x1 x4 r18 hc18 _) (cwV 2 hts gX7_weekOn_X7_eggOn rfl rfl rfl (by decide +kernel) ⟨Nat.le_of_ble_eq_true rfl, Nat.le_of_ble_eq_true rfl⟩) ⟨Pc0_blind, va_recv hT hP (q0 := 0) (ci := 7) rfl rfl, fun U hU hW => Pc0_at hE hP hD hU hW⟩ rfl rfl hl.1 rfl (lv_room (Nat.le_of_ble_eq_true rfl)) dX7_weekOn_18 ⟨Nat.zero_le _, Nat.zero_le _⟩) hS hA hD (fun H locs hP hD hS => ?_)
      refine lv_istore (lv' := [(5, .int r18), (0, .ref (ad 0)), (1, .int x1), (2, .int x2), (3, .int x3), (4, .int x4)]) hx hb dX7_weekOn_21 hl (by decide) rfl (fun ls hl => ?_)
      refine lv_iload hx hb dX7_weekOn_23 (lv_at hl 0 rfl) ?_
      refine lv_bipush (v := (-4 : Int32)) hx hb dX7_weekOn_25 (bi_m4) ?_
      refine lv_icmp_eq (tgt := 49) hx hb dX7_weekOn_27 (by decide) (fun hc => ?_) (fun hc => ?_)
      · have hf := if_t hf hc
        exact hB49 f_ x3 x4 _ hf hK _ _ _ hP hD hS (lv_sub hl [1, 2, 3, 4, 5] rfl)
      · have hf := if_f hf hc
        refine lv_aload_n hx hb dX7_weekOn_30 rfl (lv_at hl 1 rfl) ?_
        refine va_get (C := RX7) (T := TX7) (N := 34) (ci := 7) (v := .ref (ad 1)) hx hb hts inX7 hown hT hP 0 rfl rfl 0 (Nat.le_of_ble_eq_true rfl) lk7 (fun _ h => h) rfl dX7_weekOn_31 ?_
        refine lv_iload_n hx hb dX7_weekOn_34 rfl (lv_at hl 2 rfl) ?_
        refine lv_bipush (v := (nI 14)) hx hb dX7_weekOn_35 (bi_14) ?_
        refine lv_iadd hx hb dX7_weekOn_37 ?_
        refine lv_iload hx hb dX7_weekOn_38 (lv_at hl 0 rfl) ?_
        refine lv_iadd hx hb dX7_weekOn_40 ?_
        refine lv_dup2_11 hx hb dX7_weekOn_41 rfl rfl ?_
        obtain ⟨hg, hf⟩ := gd_e hf
        refine va_iald (f := f_ 1) hx hb hT hP 1 0 rfl rfl (inb_e hg) dX7_weekOn_42 ?_
        refine lv_iconst (v := (nI 1)) hx hb dX7_weekOn_43 (ic_1) ?_
        refine lv_iadd hx hb dX7_weekOn_44 ?_
        obtain ⟨hg, hf⟩ := gd_e hf
        obtain ⟨g45, eg45, hf⟩ := bnd_e hf
        refine va_iast (f := f_ 1) hx hb hT hP hD hS 1 0 rfl rfl (inb_e hg) dX7_weekOn_45 (fun H locs hP hD hS => ?_)
        rw [← eg45] at hP hD
        have hP : va_P G.1 vwCl (wX7 G ad (mrow 1 (g45) f_)) H := hP
        have hD : va_D A (wX7 G ad (mrow 1 (g45) f_)) := hD
        refine lv_iinc (v := (x3 + nI 1)) (lv' := [(3, .int (x3 + nI 1)), (5, .int r18), (0, .ref (ad 0)), (1, .int x1), (2, .int x2), (4, .int x4)]) hx hb dX7_weekOn_46 hl (k := 4) rfl (ii_x 1 _) (by decide) rfl (fun ls hl => ?_)
        exact hB49 (mrow 1 (g45) f_) (x3 + nI 1) x4 _ hf hK _ _ _ hP hD hS (lv_sub hl [2, 3, 4, 0, 5] rfl)
  · try dsimp only at hf
    show ∀ (H : Heap) (locs : List Loc) (ls : Array Slot), va_P G.1 vwCl (wX7 G ad f_5) H → va_D A (wX7 G ad f_5) → va_S A s.heap H locs → lv_has ls 6 [(0, .ref (ad 0)), (1, .int x1), (3, .int y3_5)] → W p l e ({ frames := 4, cells := 0, slots := 0, locals := 83 }) s m args below meth c H locs 0 0 Q (F0 m 66 ls [])
    intro H locs ls hP hD hS hl
    refine lv_aload_n hx hb dX7_weekOn_66 rfl (lv_at hl 0 rfl) ?_
    refine va_get (C := RX7) (T := TX7) (N := 34) (ci := 7) (v := .ref (ad 1)) hx hb hts inX7 hown hT hP 0 rfl rfl 0 (Nat.le_of_ble_eq_true rfl) lk7 (fun _ h => h) rfl dX7_weekOn_67 ?_
    refine lv_iload_n hx hb dX7_weekOn_70 rfl (lv_at hl 1 rfl) ?_
    refine lv_bipush (v := (nI 34)) hx hb dX7_weekOn_71 (bi_34) ?_
    refine lv_iadd hx hb dX7_weekOn_73 ?_
    refine lv_dup2_11 hx hb dX7_weekOn_74 rfl rfl ?_
    obtain ⟨hg, hf⟩ := gd_e hf
    refine va_iald (f := f_5 1) hx hb hT hP 1 0 rfl rfl (inb_e hg) dX7_weekOn_75 ?_
    refine lv_iconst (v := (nI 1)) hx hb dX7_weekOn_76 (ic_1) ?_
    refine lv_iadd hx hb dX7_weekOn_77 ?_
    obtain ⟨hg, hf⟩ := gd_e hf
    obtain ⟨g78, eg78, hf⟩ := bnd_e hf
    refine va_iast (f := f_5 1) hx hb hT hP hD hS 1 0 rfl rfl (inb_e hg) dX7_weekOn_78 (fun H locs hP hD hS => ?_)
    rw [← eg78] at hP hD
    have hP : va_P G.1 vwCl (wX7 G ad (mrow 1 (g78) f_5)) H := hP
    have hD : va_D A (wX7 G ad (mrow 1 (g78) f_5)) := hD
    refine lv_iload_n hx hb dX7_weekOn_79 rfl (lv_at hl 2 rfl) ?_
    have hK9 := K0_of hf hK
    exact hRet y3_5 (mrow 1 (g78) f_5) _ _ _ _ hK9 dX7_weekOn_80 hP hD hS
noncomputable def p_X7_rule_L10 (f : Mem) (x1 : Int32) (x4 : Int32) (z : Int32 × Int32 × Int32) : Option ((Int32 × Int32 × Int32) ⊕ (Int32 × Int32)) :=
  match z with
  | (x2, x3, x5) =>
    if (nI 5) ≤ x5 then
      (some (Sum.inr (x2, x3)))
    else
      (Option.bind (p_X7_moneyOn f (nI 0) x5) <| fun r21 =>
       gd (inb ((nI 14) + x5) 360) <|
       some (Sum.inl ((x2 + r21), (x3 + (f 1 ((nI 14) + x5).toNatClampNeg)), (x5 + nI 1))))
noncomputable def p_X7_rule_B77 (f : Mem) (x1 : Int32) (x2 : Int32) (x3 : Int32) (x5 : Int32) (s0 : Int32) (s1 : Int32) : Option ((Int32 × Int32) ⊕ Int32) :=
  some (Sum.inl ((s1 ||| s0), (x5 + nI 1)))
noncomputable def p_X7_rule_L48 (f : Mem) (x1 : Int32) (x2 : Int32) (x3 : Int32) (z : Int32 × Int32) : Option ((Int32 × Int32) ⊕ Int32) :=
  match z with
  | (x4, x5) =>
    if (f 0 0) ≤ x5 then
      (some (Sum.inr x4))
    else
      (Option.bind (p_X7_feathersOn f (nI 0) x5) <| fun r63 =>
       if r63 = 0 then
         (p_X7_rule_B77 f x1 x2 x3 x5 ((nI 1) <<< (x5 &&& 31)) x4)
       else
         (p_X7_rule_B77 f x1 x2 x3 x5 (nI 0) x4))
noncomputable def p_X7_rule (f : Mem) (x1 : Int32) : Option (Int32) :=
  Option.bind (lp (p_X7_rule_L10 f x1 (nI 0)) ((nI 0), (nI 0), (nI 0))) <| fun (y2_10, y3_10) =>
  Option.bind (lp (p_X7_rule_L48 f x1 y2_10 y3_10) ((nI 0), (nI 0))) <| fun y4_48 =>
  if x1 = (nI 0) then
    (some (f 0 0))
  else if x1 = (nI 1) then
    (gd (inb (nI 34) 360) <|
     some (f 1 (nI 34).toNatClampNeg))
  else if x1 = (nI 2) then
    (gd (inb (nI 59) 360) <|
     some (f 1 (nI 59).toNatClampNeg))
  else if x1 = (nI 3) then
    (some y2_10)
  else if x1 = (nI 4) then
    (some y3_10)
  else if x1 = (nI 5) then
    (some y4_48)
  else
    (some (-1 : Int32))
set_option maxHeartbeats 4000000 in
set_option maxRecDepth 100000 in
theorem c_X7_rule (l : Launch) (G : Gt) (ad : Nat → Nat) (f : Mem) (x1 : Int32) (r : Int32) (hf : p_X7_rule f x1 = some r) (sz : Nat) : Met l yX7_rule wsX7_rule ({ frames := 3, cells := 0, slots := 0, locals := 59 }) (Pc0 G sz [.ref (ad 0), .int x1] (wX7 G ad f)) (Qi0 G (va_A (wX7 G ad f) sz) r (wX7 G ad f)) 0 0 (va_A (wX7 G ad f) sz) := by
  refine metP (Qf := fun A => Qi0 G A r (wX7 G ad f)) cX7_rule 6 (some .int) (by decide) rfl (Nat.le_of_ble_eq_true rfl) ?_
  intro p e s m below meth c A ls hC hr hlocks hin hE hA hsz hP hD hS hl
  generalize hargs : ([.ref (ad 0), .int x1] : List Value).toArray = args at hC ⊢
  obtain ⟨hx, hb, hml, hown, hts⟩ := id hC
  have hT : va_K G.1 vwCl (tyL G) s := hE.1
  have hRet : ∀ (r9 : Int32) (H : Heap) (locs : List Loc) (ls : Array Slot) (pc : Nat) (hK9 : r9 = r) (hdg : decode cX7_rule pc = .ok (.ireturn, 1)), va_P G.1 vwCl (wX7 G ad f) H → va_D A (wX7 G ad f) → va_S A s.heap H locs → W p l e ({ frames := 3, cells := 0, slots := 0, locals := 59 }) s m args below meth c H locs 0 0 (MQ below (Qi0 G A r (wX7 G ad f)) args s 0 0 A) (F0 m pc ls [.int r9]) := by
    intro r9 H locs ls pc hK9 hdg hP hD hS
    cases hK9
    exact W.iret hx hb hr (fun t ht hW => ⟨⟨r, (), rfl, rfl, by rw [ht]; exact hP, hD⟩, hS.F ht⟩) hS.2.2 hdg hlocks
  generalize MQ below (Qi0 G A r (wX7 G ad f)) args s 0 0 A = Q at hRet ⊢
  have lk7 := hts (.fieldLink RX7 7 "FeatherSharesModel" "state" "[I") (by decide +kernel)
  have inX7 : ∀ w ∈ u_ws RX7 TX7 34, w ∈ wsX7_rule := by decide +kernel
  have lk128 := hts (.fieldLink RX7 128 "FeatherSharesModel" "gooseMany" "I") (by decide +kernel)
  have hl : lv_has ls 6 [(0, .ref (ad 0)), (1, .int x1)] := hl
  have hK0 : r = r := rfl
  obtain ⟨res, hres, hK⟩ : ∃ res, p_X7_rule f x1 = some res ∧ res = r := ⟨_, hf, rfl⟩
  clear hf
  have hf := hres
  clear hres
  unfold p_X7_rule at hf
  refine lv_iconst (v := (nI 0)) hx hb dX7_rule_0 (ic_0) ?_
  refine lv_istore_n (lv' := [(2, .int (nI 0)), (0, .ref (ad 0)), (1, .int x1)]) hx hb dX7_rule_1 rfl hl (by decide) rfl (fun ls hl => ?_)
  refine lv_iconst (v := (nI 0)) hx hb dX7_rule_2 (ic_0) ?_
  refine lv_istore_n (lv' := [(3, .int (nI 0)), (2, .int (nI 0)), (0, .ref (ad 0)), (1, .int x1)]) hx hb dX7_rule_3 rfl hl (by decide) rfl (fun ls hl => ?_)
  refine lv_iconst (v := (nI 0)) hx hb dX7_rule_4 (ic_0) ?_
  refine lv_istore (lv' := [(4, .int (nI 0)), (3, .int (nI 0)), (2, .int (nI 0)), (0, .ref (ad 0)), (1, .int x1)]) hx hb dX7_rule_5 hl (by decide) rfl (fun ls hl => ?_)
  refine lv_iconst (v := (nI 0)) hx hb dX7_rule_7 (ic_0) ?_
  refine lv_istore (lv' := [(5, .int (nI 0)), (4, .int (nI 0)), (3, .int (nI 0)), (2, .int (nI 0)), (0, .ref (ad 0)), (1, .int x1)]) hx hb dX7_rule_8 hl (by decide) rfl (fun ls hl => ?_)
  obtain ⟨⟨y2_10, y3_10⟩, hlp, hf⟩ := bd_e hf
  refine lp_W1 (p_X7_rule_L10 f x1 (nI 0)) (fun z => match z with | (x2, x3, x5) => ∀ (H : Heap) (locs : List Loc) (ls : Array Slot), va_P G.1 vwCl (wX7 G ad f) H → va_D A (wX7 G ad f) → va_S A s.heap H locs → lv_has ls 6 [(0, .ref (ad 0)), (1, .int x1), (2, .int x2), (3, .int x3), (4, .int (nI 0)), (5, .int x5)] → W p l e ({ frames := 3, cells := 0, slots := 0, locals := 59 }) s m args below meth c H locs 0 0 Q (F0 m 10 ls [])) (fun z => match z with | (y2_10, y3_10) => ∀ (H : Heap) (locs : List Loc) (ls : Array Slot), va_P G.1 vwCl (wX7 G ad f) H → va_D A (wX7 G ad f) → va_S A s.heap H locs → lv_has ls 6 [(0, .ref (ad 0)), (1, .int x1), (2, .int y2_10), (3, .int y3_10), (4, .int (nI 0))] → W p l e ({ frames := 3, cells := 0, slots := 0, locals := 59 }) s m args below meth c H locs 0 0 Q (F0 m 45 ls [])) ?_ hlp ?_ _ _ _ hP hD hS (lv_sub hl [4, 5, 3, 2, 1, 0] rfl)
  · clear hlp hf hK hP hD hS hl
    generalize (nI 0) = x4
    intro K10 hW10 hX10 
    rintro ⟨x2, x3, x5⟩ res hf hK H locs ls hP hD hS hl
    unfold p_X7_rule_L10 at hf
    dsimp only at hf
    refine lv_iload hx hb dX7_rule_10 (lv_at hl 5 rfl) ?_
    refine lv_iconst (v := (nI 5)) hx hb dX7_rule_12 (ic_5) ?_
    refine lv_icmp_ge (tgt := 45) hx hb dX7_rule_13 (by decide) (fun hc => ?_) (fun hc => ?_)
    · have hf := if_t hf hc
      have hK9 := K_of hf hK
      have hK9 := hX10 _ hK9
      exact hK9 _ _ _ hP hD hS (lv_sub hl [0, 1, 2, 3, 4] rfl)
    · have hf := if_f hf hc
      refine lv_iload_n hx hb dX7_rule_16 rfl (lv_at hl 2 rfl) ?_
      refine lv_aload_n hx hb dX7_rule_17 rfl (lv_at hl 0 rfl) ?_
      refine lv_iconst (v := (nI 0)) hx hb dX7_rule_18 (ic_0) ?_
      refine lv_iload hx hb dX7_rule_19 (lv_at hl 5 rfl) ?_
      obtain ⟨r21, hc21, hf⟩ := bd_e hf
      refine cl_i_same (Wd := (wX7 G ad f)) (W' := (wX7 G ad f)) (va_runV (As := [.int (nI 0), .int x5]) (rest := [.int x2]) hC (c_X7_moneyOn l G ad f (nI 0) x5 r21 hc21 _) (cwV 2 hts gX7_rule_X7_moneyOn rfl rfl rfl (by decide +kernel) ⟨Nat.le_of_ble_eq_true rfl, Nat.le_of_ble_eq_true rfl⟩) ⟨Pc0_blind, va_recv hT hP (q0 := 0) (ci := 7) rfl rfl, fun U hU hW => Pc0_at hE hP hD hU hW⟩ rfl rfl hl.1 rfl (lv_room (Nat.le_of_ble_eq_true rfl)) dX7_rule_21 ⟨Nat.zero_le _, Nat.zero_le _⟩) hS hA hD (fun H locs hP hD hS => ?_)
      refine lv_iadd hx hb dX7_rule_24 ?_
      refine lv_istore_n (lv' := [(2, .int (x2 + r21)), (0, .ref (ad 0)), (1, .int x1), (3, .int x3), (4, .int x4), (5, .int x5)]) hx hb dX7_rule_25 rfl hl (by decide) rfl (fun ls hl => ?_)
      refine lv_iload_n hx hb dX7_rule_26 rfl (lv_at hl 3 rfl) ?_
      refine lv_aload_n hx hb dX7_rule_27 rfl (lv_at hl 1 rfl) ?_
      refine va_get (C := RX7) (T := TX7) (N := 34) (ci := 7) (v := .ref (ad 1)) hx hb hts inX7 hown hT hP 0 rfl rfl 0 (Nat.le_of_ble_eq_true rfl) lk7 (fun _ h => h) rfl dX7_rule_28 ?_
      refine lv_bipush (v := (nI 14)) hx hb dX7_rule_31 (bi_14) ?_
      refine lv_iload hx hb dX7_rule_33 (lv_at hl 5 rfl) ?_
      refine lv_iadd hx hb dX7_rule_35 ?_
      obtain ⟨hg, hf⟩ := gd_e hf
      refine va_iald (f := f 1) hx hb hT hP 1 0 rfl rfl (inb_e hg) dX7_rule_36 ?_
      refine lv_iadd hx hb dX7_rule_37 ?_
      refine lv_istore_n (lv' := [(3, .int (x3 + (f 1 ((nI 14) + x5).toNatClampNeg))), (2, .int (x2 + r21)), (0, .ref (ad 0)), (1, .int x1), (4, .int x4), (5, .int x5)]) hx hb dX7_rule_38 rfl hl (by decide) rfl (fun ls hl => ?_)
      refine lv_iinc (v := (x5 + nI 1)) (lv' := [(5, .int (x5 + nI 1)), (3, .int (x3 + (f 1 ((nI 14) + x5).toNatClampNeg))), (2, .int (x2 + r21)), (0, .ref (ad 0)), (1, .int x1), (4, .int x4)]) hx hb dX7_rule_39 hl (k := 5) rfl (ii_x 1 _) (by decide) rfl (fun ls hl => ?_)
      refine lv_goto (tgt := 10) hx hb dX7_rule_42 (by decide) ?_
      have hK9 := K_of hf hK
      have hK9 := hW10 _ hK9
      exact hK9 _ _ _ hP hD hS (lv_sub hl [3, 4, 2, 1, 5, 0] rfl)
  · try dsimp only at hf
    show ∀ (H : Heap) (locs : List Loc) (ls : Array Slot), va_P G.1 vwCl (wX7 G ad f) H → va_D A (wX7 G ad f) → va_S A s.heap H locs → lv_has ls 6 [(0, .ref (ad 0)), (1, .int x1), (2, .int y2_10), (3, .int y3_10), (4, .int (nI 0))] → W p l e ({ frames := 3, cells := 0, slots := 0, locals := 59 }) s m args below meth c H locs 0 0 Q (F0 m 45 ls [])
    intro H locs ls hP hD hS hl
    refine lv_iconst (v := (nI 0)) hx hb dX7_rule_45 (ic_0) ?_
    refine lv_istore (lv' := [(5, .int (nI 0)), (0, .ref (ad 0)), (1, .int x1), (2, .int y2_10), (3, .int y3_10), (4, .int (nI 0))]) hx hb dX7_rule_46 hl (by decide) rfl (fun ls hl => ?_)
    obtain ⟨y4_48, hlp, hf⟩ := bd_e hf
    refine lp_W1 (p_X7_rule_L48 f x1 y2_10 y3_10) (fun z => match z with | (x4, x5) => ∀ (H : Heap) (locs : List Loc) (ls : Array Slot), va_P G.1 vwCl (wX7 G ad f) H → va_D A (wX7 G ad f) → va_S A s.heap H locs → lv_has ls 6 [(0, .ref (ad 0)), (1, .int x1), (2, .int y2_10), (3, .int y3_10), (4, .int x4), (5, .int x5)] → W p l e ({ frames := 3, cells := 0, slots := 0, locals := 59 }) s m args below meth c H locs 0 0 Q (F0 m 48 ls [])) (fun (y4_48 : Int32) => ∀ (H : Heap) (locs : List Loc) (ls : Array Slot), va_P G.1 vwCl (wX7 G ad f) H → va_D A (wX7 G ad f) → va_S A s.heap H locs → lv_has ls 6 [(0, .ref (ad 0)), (1, .int x1), (2, .int y2_10), (3, .int y3_10), (4, .int y4_48)] → W p l e ({ frames := 3, cells := 0, slots := 0, locals := 59 }) s m args below meth c H locs 0 0 Q (F0 m 86 ls [])) ?_ hlp ?_ _ _ _ hP hD hS (lv_sub hl [1, 2, 3, 4, 5, 0] rfl)
    · clear hlp hf hK hP hD hS hl
      generalize y2_10 = x2
      generalize y3_10 = x3
      intro K48 hW48 hX48 
      have hB77 : ∀ (x5 : Int32) (s0 : Int32) (s1 : Int32) (res : (Int32 × Int32) ⊕ Int32) (hf : p_X7_rule_B77 f x1 x2 x3 x5 s0 s1 = some res) (hK : K48 res), ∀ (H : Heap) (locs : List Loc) (ls : Array Slot), va_P G.1 vwCl (wX7 G ad f) H → va_D A (wX7 G ad f) → va_S A s.heap H locs → lv_has ls 6 [(0, .ref (ad 0)), (1, .int x1), (2, .int x2), (3, .int x3), (5, .int x5)] → W p l e ({ frames := 3, cells := 0, slots := 0, locals := 59 }) s m args below meth c H locs 0 0 Q (F0 m 77 ls [.int s0, .int s1]) := by
        intro x5 s0 s1 res hf hK H locs ls hP hD hS hl
        unfold p_X7_rule_B77 at hf
        refine lv_ior hx hb dX7_rule_77 ?_
        refine lv_istore (lv' := [(4, .int (s1 ||| s0)), (0, .ref (ad 0)), (1, .int x1), (2, .int x2), (3, .int x3), (5, .int x5)]) hx hb dX7_rule_78 hl (by decide) rfl (fun ls hl => ?_)
        refine lv_iinc (v := (x5 + nI 1)) (lv' := [(5, .int (x5 + nI 1)), (4, .int (s1 ||| s0)), (0, .ref (ad 0)), (1, .int x1), (2, .int x2), (3, .int x3)]) hx hb dX7_rule_80 hl (k := 5) rfl (ii_x 1 _) (by decide) rfl (fun ls hl => ?_)
        refine lv_goto (tgt := 48) hx hb dX7_rule_83 (by decide) ?_
        have hK9 := K_of hf hK
        have hK9 := hW48 _ hK9
        exact hK9 _ _ _ hP hD hS (lv_sub hl [2, 3, 4, 5, 1, 0] rfl)
      rintro ⟨x4, x5⟩ res hf hK H locs ls hP hD hS hl
      unfold p_X7_rule_L48 at hf
      dsimp only at hf
      refine lv_iload hx hb dX7_rule_48 (lv_at hl 5 rfl) ?_
      refine lv_aload_n hx hb dX7_rule_50 rfl (lv_at hl 0 rfl) ?_
      refine va_get (C := RX7) (T := TX7) (N := 34) (ci := 7) (v := .int (f 0 0)) hx hb hts inX7 hown hT hP 0 rfl rfl 1 (Nat.le_of_ble_eq_true rfl) lk128 (fun _ h => h) rfl dX7_rule_51 ?_
      refine lv_icmp_ge (tgt := 86) hx hb dX7_rule_54 (by decide) (fun hc => ?_) (fun hc => ?_)
      · have hf := if_t hf hc
        have hK9 := K_of hf hK
        have hK9 := hX48 _ hK9
        exact hK9 _ _ _ hP hD hS (lv_sub hl [0, 1, 2, 3, 4] rfl)
      · have hf := if_f hf hc
        refine lv_iload hx hb dX7_rule_57 (lv_at hl 4 rfl) ?_
        refine lv_aload_n hx hb dX7_rule_59 rfl (lv_at hl 0 rfl) ?_
        refine lv_iconst (v := (nI 0)) hx hb dX7_rule_60 (ic_0) ?_
        refine lv_iload hx hb dX7_rule_61 (lv_at hl 5 rfl) ?_
        obtain ⟨r63, hc63, hf⟩ := bd_e hf
        refine cl_i_same (Wd := (wX7 G ad f)) (W' := (wX7 G ad f)) (va_runV (As := [.int (nI 0), .int x5]) (rest := [.int x4]) hC (c_X7_feathersOn l G ad f (nI 0) x5 r63 hc63 _) (cwV 2 hts gX7_rule_X7_feathersOn rfl rfl rfl (by decide +kernel) ⟨Nat.le_of_ble_eq_true rfl, Nat.le_of_ble_eq_true rfl⟩) ⟨Pc0_blind, va_recv hT hP (q0 := 0) (ci := 7) rfl rfl, fun U hU hW => Pc0_at hE hP hD hU hW⟩ rfl rfl hl.1 rfl (lv_room (Nat.le_of_ble_eq_true rfl)) dX7_rule_63 ⟨Nat.zero_le _, Nat.zero_le _⟩) hS hA hD (fun H locs hP hD hS => ?_)
        refine lv_if_ne (tgt := 76) hx hb dX7_rule_66 (by decide) (fun hc => ?_) (fun hc => ?_)
        · have hf := if_f hf hc
          refine lv_iconst (v := (nI 0)) hx hb dX7_rule_76 (ic_0) ?_
          exact hB77 x5 (nI 0) x4 _ hf hK _ _ _ hP hD hS (lv_sub hl [0, 1, 2, 3, 5] rfl)
        · have hf := if_t hf hc
          refine lv_iconst (v := (nI 1)) hx hb dX7_rule_69 (ic_1) ?_
          refine lv_iload hx hb dX7_rule_70 (lv_at hl 5 rfl) ?_
          refine lv_ishl hx hb dX7_rule_72 ?_
          refine lv_goto (tgt := 77) hx hb dX7_rule_73 (by decide) ?_
          exact hB77 x5 ((nI 1) <<< (x5 &&& 31)) x4 _ hf hK _ _ _ hP hD hS (lv_sub hl [0, 1, 2, 3, 5] rfl)
    · try dsimp only at hf
      show ∀ (H : Heap) (locs : List Loc) (ls : Array Slot), va_P G.1 vwCl (wX7 G ad f) H → va_D A (wX7 G ad f) → va_S A s.heap H locs → lv_has ls 6 [(0, .ref (ad 0)), (1, .int x1), (2, .int y2_10), (3, .int y3_10), (4, .int y4_48)] → W p l e ({ frames := 3, cells := 0, slots := 0, locals := 59 }) s m args below meth c H locs 0 0 Q (F0 m 86 ls [])
      intro H locs ls hP hD hS hl
      refine lv_iload_n hx hb dX7_rule_86 rfl (lv_at hl 1 rfl) ?_
      by_cases hs0 : x1 = (nI 0)
      · have hf := if_t hf hs0
        refine lv_tableIn (tgt := 124) hx hb dX7_rule_87 (by rw [hs0]; decide) (by rw [hs0]; decide) (by rw [hs0]; rfl) (by decide) ?_
        refine lv_aload_n hx hb dX7_rule_124 rfl (lv_at hl 0 rfl) ?_
        refine va_get (C := RX7) (T := TX7) (N := 34) (ci := 7) (v := .int (f 0 0)) hx hb hts inX7 hown hT hP 0 rfl rfl 1 (Nat.le_of_ble_eq_true rfl) lk128 (fun _ h => h) rfl dX7_rule_125 ?_
        have hK9 := K0_of hf hK
        exact hRet (f 0 0) _ _ _ _ hK9 dX7_rule_128 hP hD hS
      have hf := if_f hf hs0
      by_cases hs1 : x1 = (nI 1)
      · have hf := if_t hf hs1
        refine lv_tableIn (tgt := 129) hx hb dX7_rule_87 (by rw [hs1]; decide) (by rw [hs1]; decide) (by rw [hs1]; rfl) (by decide) ?_
        refine lv_aload_n hx hb dX7_rule_129 rfl (lv_at hl 0 rfl) ?_
        refine va_get (C := RX7) (T := TX7) (N := 34) (ci := 7) (v := .ref (ad 1)) hx hb hts inX7 hown hT hP 0 rfl rfl 0 (Nat.le_of_ble_eq_true rfl) lk7 (fun _ h => h) rfl dX7_rule_130 ?_
        refine lv_bipush (v := (nI 34)) hx hb dX7_rule_133 (bi_34) ?_
        obtain ⟨hg, hf⟩ := gd_e hf
        refine va_iald (f := f 1) hx hb hT hP 1 0 rfl rfl (inb_e hg) dX7_rule_135 ?_
        have hK9 := K0_of hf hK
        exact hRet (f 1 (nI 34).toNatClampNeg) _ _ _ _ hK9 dX7_rule_136 hP hD hS
      have hf := if_f hf hs1
      by_cases hs2 : x1 = (nI 2)
      · have hf := if_t hf hs2
        refine lv_tableIn (tgt := 137) hx hb dX7_rule_87 (by rw [hs2]; decide) (by rw [hs2]; decide) (by rw [hs2]; rfl) (by decide) ?_
        refine lv_aload_n hx hb dX7_rule_137 rfl (lv_at hl 0 rfl) ?_
        refine va_get (C := RX7) (T := TX7) (N := 34) (ci := 7) (v := .ref (ad 1)) hx hb hts inX7 hown hT hP 0 rfl rfl 0 (Nat.le_of_ble_eq_true rfl) lk7 (fun _ h => h) rfl dX7_rule_138 ?_
        refine lv_bipush (v := (nI 59)) hx hb dX7_rule_141 (bi_59) ?_
        obtain ⟨hg, hf⟩ := gd_e hf
        refine va_iald (f := f 1) hx hb hT hP 1 0 rfl rfl (inb_e hg) dX7_rule_143 ?_
        have hK9 := K0_of hf hK
        exact hRet (f 1 (nI 59).toNatClampNeg) _ _ _ _ hK9 dX7_rule_144 hP hD hS
      have hf := if_f hf hs2
      by_cases hs3 : x1 = (nI 3)
      · have hf := if_t hf hs3
        refine lv_tableIn (tgt := 145) hx hb dX7_rule_87 (by rw [hs3]; decide) (by rw [hs3]; decide) (by rw [hs3]; rfl) (by decide) ?_
        refine lv_iload_n hx hb dX7_rule_145 rfl (lv_at hl 2 rfl) ?_
        have hK9 := K0_of hf hK
        exact hRet y2_10 _ _ _ _ hK9 dX7_rule_146 hP hD hS
      have hf := if_f hf hs3
      by_cases hs4 : x1 = (nI 4)
      · have hf := if_t hf hs4
        refine lv_tableIn (tgt := 147) hx hb dX7_rule_87 (by rw [hs4]; decide) (by rw [hs4]; decide) (by rw [hs4]; rfl) (by decide) ?_
        refine lv_iload_n hx hb dX7_rule_147 rfl (lv_at hl 3 rfl) ?_
        have hK9 := K0_of hf hK
        exact hRet y3_10 _ _ _ _ hK9 dX7_rule_148 hP hD hS
      have hf := if_f hf hs4
      by_cases hs5 : x1 = (nI 5)
      · have hf := if_t hf hs5
        refine lv_tableIn (tgt := 149) hx hb dX7_rule_87 (by rw [hs5]; decide) (by rw [hs5]; decide) (by rw [hs5]; rfl) (by decide) ?_
        refine lv_iload hx hb dX7_rule_149 (lv_at hl 4 rfl) ?_
        have hK9 := K0_of hf hK
        exact hRet y4_48 _ _ _ _ hK9 dX7_rule_151 hP hD hS
      have hf := if_f hf hs5
      have hout : x1.toInt < 0 ∨ 5 < x1.toInt := by
        have t0 := ne_int hs0 (by decide)
        have t1 := ne_int hs1 (by decide)
        have t2 := ne_int hs2 (by decide)
        have t3 := ne_int hs3 (by decide)
        have t4 := ne_int hs4 (by decide)
        have t5 := ne_int hs5 (by decide)
        omega
      refine lv_tableOut (tgt := 152) hx hb dX7_rule_87 hout (by decide) ?_
      refine lv_iconst (v := (-1 : Int32)) hx hb dX7_rule_152 (ic_m1) ?_
      have hK9 := K0_of hf hK
      exact hRet (-1 : Int32) _ _ _ _ hK9 dX7_rule_153 hP hD hS
noncomputable def p_X7_goose (f : Mem) (x1 : Int32) (x2 : Int32) : Option (Int32) :=
  Option.bind (p_X7_isGoose f x1) <| fun r2 =>
  if r2 = 0 then
    (some (-1 : Int32))
  else
    (Option.bind (p_X7_in ((x2).toInt64) (lN 0) (4 : Int64)) <| fun r14 =>
     if r14 = 0 then
       (some (-1 : Int32))
     else
       (if (nI 3) ≤ x2 then
          (if x2 = (nI 3) then
             (Option.bind (p_X7_feathersOn f (nI 0) x1) <| fun r48 =>
              some r48)
           else
             (Option.bind (p_X7_eggOn f (nI 0) x1) <| fun r57 =>
              some r57))
        else
          (gd (inb (((nI 3) * x2) + x1) 360) <|
           some (f 1 (((nI 3) * x2) + x1).toNatClampNeg))))
set_option maxHeartbeats 4000000 in
set_option maxRecDepth 100000 in
theorem c_X7_goose (l : Launch) (G : Gt) (ad : Nat → Nat) (f : Mem) (x1 : Int32) (x2 : Int32) (r : Int32) (hf : p_X7_goose f x1 x2 = some r) (sz : Nat) : Met l yX7_goose wsX7_goose ({ frames := 4, cells := 0, slots := 0, locals := 83 }) (Pc0 G sz [.ref (ad 0), .int x1, .int x2] (wX7 G ad f)) (Qi0 G (va_A (wX7 G ad f) sz) r (wX7 G ad f)) 0 0 (va_A (wX7 G ad f) sz) := by
  refine metP (Qf := fun A => Qi0 G A r (wX7 G ad f)) cX7_goose 3 (some .int) (by decide) rfl (Nat.le_of_ble_eq_true rfl) ?_
  intro p e s m below meth c A ls hC hr hlocks hin hE hA hsz hP hD hS hl
  generalize hargs : ([.ref (ad 0), .int x1, .int x2] : List Value).toArray = args at hC ⊢
  obtain ⟨hx, hb, hml, hown, hts⟩ := id hC
  have hT : va_K G.1 vwCl (tyL G) s := hE.1
  have hRet : ∀ (r9 : Int32) (H : Heap) (locs : List Loc) (ls : Array Slot) (pc : Nat) (hK9 : r9 = r) (hdg : decode cX7_goose pc = .ok (.ireturn, 1)), va_P G.1 vwCl (wX7 G ad f) H → va_D A (wX7 G ad f) → va_S A s.heap H locs → W p l e ({ frames := 4, cells := 0, slots := 0, locals := 83 }) s m args below meth c H locs 0 0 (MQ below (Qi0 G A r (wX7 G ad f)) args s 0 0 A) (F0 m pc ls [.int r9]) := by
    intro r9 H locs ls pc hK9 hdg hP hD hS
    cases hK9
    exact W.iret hx hb hr (fun t ht hW => ⟨⟨r, (), rfl, rfl, by rw [ht]; exact hP, hD⟩, hS.F ht⟩) hS.2.2 hdg hlocks
  generalize MQ below (Qi0 G A r (wX7 G ad f)) args s 0 0 A = Q at hRet ⊢
  have lk7 := hts (.fieldLink RX7 7 "FeatherSharesModel" "state" "[I") (by decide +kernel)
  have inX7 : ∀ w ∈ u_ws RX7 TX7 34, w ∈ wsX7_goose := by decide +kernel
  have hl : lv_has ls 3 [(0, .ref (ad 0)), (1, .int x1), (2, .int x2)] := hl
  have hK0 : r = r := rfl
  obtain ⟨res, hres, hK⟩ : ∃ res, p_X7_goose f x1 x2 = some res ∧ res = r := ⟨_, hf, rfl⟩
  clear hf
  have hf := hres
  clear hres
  unfold p_X7_goose at hf
  refine lv_aload_n hx hb dX7_goose_0 rfl (lv_at hl 0 rfl) ?_
  refine lv_iload_n hx hb dX7_goose_1 rfl (lv_at hl 1 rfl) ?_
  obtain ⟨r2, hc2, hf⟩ := bd_e hf
  refine cl_z_same (Wd := (wX7 G ad f)) (W' := (wX7 G ad f)) (va_runV (As := [.int x1]) (rest := []) hC (c_X7_isGoose l G ad f x1 r2 hc2 _) (cwV 1 hts gX7_goose_X7_isGoose rfl rfl rfl (by decide +kernel) ⟨Nat.le_of_ble_eq_true rfl, Nat.le_of_ble_eq_true rfl⟩) ⟨Pc0_blind, va_recv hT hP (q0 := 0) (ci := 7) rfl rfl, fun U hU hW => Pc0_at hE hP hD hU hW⟩ rfl rfl hl.1 rfl (lv_room (Nat.le_of_ble_eq_true rfl)) dX7_goose_2 ⟨Nat.zero_le _, Nat.zero_le _⟩) hS hA hD (fun H locs hn2 hP hD hS => ?_)
  refine lv_if_eq (tgt := 20) hx hb dX7_goose_5 (by decide) (fun hc => ?_) (fun hc => ?_)
  · have hf := if_t hf hc
    refine lv_iconst (v := (-1 : Int32)) hx hb dX7_goose_20 (ic_m1) ?_
    have hK9 := K0_of hf hK
    exact hRet (-1 : Int32) _ _ _ _ hK9 dX7_goose_21 hP hD hS
  · have hf := if_f hf hc
    refine lv_iload_n hx hb dX7_goose_8 rfl (lv_at hl 2 rfl) ?_
    refine lv_i2l (v := ((x2).toInt64)) hx hb dX7_goose_9 rfl ?_
    refine lv_lconst (v := (lN 0)) hx hb dX7_goose_10 rfl ?_
    refine W.ldc2 (v := (4 : Int64)) hx hb hown (hts (.constantLong RX7 134 (4 : Int64)) (by decide +kernel)) rfl dX7_goose_11 ?_
    refine W.eq (g2 := F0 m 14 ls [.long (4 : Int64), .long (lN 0), .long ((x2).toInt64)]) rfl ?_
    obtain ⟨r14, hc14, hf⟩ := bd_e hf
    refine cl_z_ro (Wd := (wX7 G ad f)) (Wc := ([] : va_W)) [] rfl (va_runS (As := [.long ((x2).toInt64), .long (lN 0), .long (4 : Int64)]) (rest := []) hC (c_X7_in l G ((x2).toInt64) (lN 0) (4 : Int64) r14 hc14 _) (va_cwS 3 hts gX7_goose_X7_in rfl rfl rfl (by decide +kernel) ⟨Nat.le_of_ble_eq_true rfl, Nat.le_of_ble_eq_true rfl⟩) ⟨Pc0_blind, fun U hU hW => Pc0_at (Wd := ([] : va_W)) hE (hP.subm [] rfl) (hD.sub [] (by decide) rfl) hU hW⟩ rfl rfl hl.1 rfl (lv_room (Nat.le_of_ble_eq_true rfl)) dX7_goose_14 ⟨Nat.zero_le _, Nat.zero_le _⟩) hS hA hP hD (fun H locs hn14 hP hD hS => ?_)
    refine lv_if_ne (tgt := 22) hx hb dX7_goose_17 (by decide) (fun hc => ?_) (fun hc => ?_)
    · have hf := if_f hf hc
      refine lv_iload_n hx hb dX7_goose_22 rfl (lv_at hl 2 rfl) ?_
      refine lv_iconst (v := (nI 3)) hx hb dX7_goose_23 (ic_3) ?_
      refine lv_icmp_ge (tgt := 40) hx hb dX7_goose_24 (by decide) (fun hc => ?_) (fun hc => ?_)
      · have hf := if_t hf hc
        refine lv_iload_n hx hb dX7_goose_40 rfl (lv_at hl 2 rfl) ?_
        refine lv_iconst (v := (nI 3)) hx hb dX7_goose_41 (ic_3) ?_
        refine lv_icmp_ne (tgt := 54) hx hb dX7_goose_42 (by decide) (fun hc => ?_) (fun hc => ?_)
        · have hf := if_f hf hc
          refine lv_aload_n hx hb dX7_goose_54 rfl (lv_at hl 0 rfl) ?_
          refine lv_iconst (v := (nI 0)) hx hb dX7_goose_55 (ic_0) ?_
          refine lv_iload_n hx hb dX7_goose_56 rfl (lv_at hl 1 rfl) ?_
          obtain ⟨r57, hc57, hf⟩ := bd_e hf
          refine cl_i_same (Wd := (wX7 G ad f)) (W' := (wX7 G ad f)) (va_runV (As := [.int (nI 0), .int x1]) (rest := []) hC (c_X7_eggOn l G ad f (nI 0) x1 r57 hc57 _) (cwV 2 hts gX7_goose_X7_eggOn rfl rfl rfl (by decide +kernel) ⟨Nat.le_of_ble_eq_true rfl, Nat.le_of_ble_eq_true rfl⟩) ⟨Pc0_blind, va_recv hT hP (q0 := 0) (ci := 7) rfl rfl, fun U hU hW => Pc0_at hE hP hD hU hW⟩ rfl rfl hl.1 rfl (lv_room (Nat.le_of_ble_eq_true rfl)) dX7_goose_57 ⟨Nat.zero_le _, Nat.zero_le _⟩) hS hA hD (fun H locs hP hD hS => ?_)
          have hK9 := K0_of hf hK
          exact hRet r57 _ _ _ _ hK9 dX7_goose_60 hP hD hS
        · have hf := if_t hf hc
          refine lv_aload_n hx hb dX7_goose_45 rfl (lv_at hl 0 rfl) ?_
          refine lv_iconst (v := (nI 0)) hx hb dX7_goose_46 (ic_0) ?_
          refine lv_iload_n hx hb dX7_goose_47 rfl (lv_at hl 1 rfl) ?_
          obtain ⟨r48, hc48, hf⟩ := bd_e hf
          refine cl_i_same (Wd := (wX7 G ad f)) (W' := (wX7 G ad f)) (va_runV (As := [.int (nI 0), .int x1]) (rest := []) hC (c_X7_feathersOn l G ad f (nI 0) x1 r48 hc48 _) (cwV 2 hts gX7_goose_X7_feathersOn rfl rfl rfl (by decide +kernel) ⟨Nat.le_of_ble_eq_true rfl, Nat.le_of_ble_eq_true rfl⟩) ⟨Pc0_blind, va_recv hT hP (q0 := 0) (ci := 7) rfl rfl, fun U hU hW => Pc0_at hE hP hD hU hW⟩ rfl rfl hl.1 rfl (lv_room (Nat.le_of_ble_eq_true rfl)) dX7_goose_48 ⟨Nat.zero_le _, Nat.zero_le _⟩) hS hA hD (fun H locs hP hD hS => ?_)
          refine lv_goto (tgt := 60) hx hb dX7_goose_51 (by decide) ?_
          have hK9 := K0_of hf hK
          exact hRet r48 _ _ _ _ hK9 dX7_goose_60 hP hD hS
      · have hf := if_f hf hc
        refine lv_aload_n hx hb dX7_goose_27 rfl (lv_at hl 0 rfl) ?_
        refine va_get (C := RX7) (T := TX7) (N := 34) (ci := 7) (v := .ref (ad 1)) hx hb hts inX7 hown hT hP 0 rfl rfl 0 (Nat.le_of_ble_eq_true rfl) lk7 (fun _ h => h) rfl dX7_goose_28 ?_
        refine lv_iconst (v := (nI 3)) hx hb dX7_goose_31 (ic_3) ?_
        refine lv_iload_n hx hb dX7_goose_32 rfl (lv_at hl 2 rfl) ?_
        refine lv_imul hx hb dX7_goose_33 ?_
        refine lv_iload_n hx hb dX7_goose_34 rfl (lv_at hl 1 rfl) ?_
        refine lv_iadd hx hb dX7_goose_35 ?_
        obtain ⟨hg, hf⟩ := gd_e hf
        refine va_iald (f := f 1) hx hb hT hP 1 0 rfl rfl (inb_e hg) dX7_goose_36 ?_
        refine lv_goto (tgt := 60) hx hb dX7_goose_37 (by decide) ?_
        have hK9 := K0_of hf hK
        exact hRet (f 1 (((nI 3) * x2) + x1).toNatClampNeg) _ _ _ _ hK9 dX7_goose_60 hP hD hS
    · have hf := if_t hf hc
      refine lv_iconst (v := (-1 : Int32)) hx hb dX7_goose_20 (ic_m1) ?_
      have hK9 := K0_of hf hK
      exact hRet (-1 : Int32) _ _ _ _ hK9 dX7_goose_21 hP hD hS
noncomputable def p_X7_ownerOn (f : Mem) (x1 : Int32) (x2 : Int32) (x3 : Int32) : Option (Int32) :=
  if x3 = 0 then
    (Option.bind (p_X7_moneyOn f x1 x2) <| fun r7 =>
     some r7)
  else
    (if x3 = (nI 1) then
       (gd (inb ((x1 + (nI 14)) + x2) 360) <|
        some (f 1 ((x1 + (nI 14)) + x2).toNatClampNeg))
     else
       (if x3 = (nI 2) then
          (Option.bind (p_X7_worthOn f x1 x2) <| fun r40 =>
           some r40)
        else
          (Option.bind (p_X7_eggsNow f x1 x2) <| fun r49 =>
           some r49)))
set_option maxHeartbeats 4000000 in
set_option maxRecDepth 100000 in
theorem c_X7_ownerOn (l : Launch) (G : Gt) (ad : Nat → Nat) (f : Mem) (x1 : Int32) (x2 : Int32) (x3 : Int32) (r : Int32) (hf : p_X7_ownerOn f x1 x2 x3 = some r) (sz : Nat) : Met l yX7_ownerOn wsX7_ownerOn ({ frames := 5, cells := 0, slots := 0, locals := 107 }) (Pc0 G sz [.ref (ad 0), .int x1, .int x2, .int x3] (wX7 G ad f)) (Qi0 G (va_A (wX7 G ad f) sz) r (wX7 G ad f)) 0 0 (va_A (wX7 G ad f) sz) := by
  refine metP (Qf := fun A => Qi0 G A r (wX7 G ad f)) cX7_ownerOn 4 (some .int) (by decide) rfl (Nat.le_of_ble_eq_true rfl) ?_
  intro p e s m below meth c A ls hC hr hlocks hin hE hA hsz hP hD hS hl
  generalize hargs : ([.ref (ad 0), .int x1, .int x2, .int x3] : List Value).toArray = args at hC ⊢
  obtain ⟨hx, hb, hml, hown, hts⟩ := id hC
  have hT : va_K G.1 vwCl (tyL G) s := hE.1
  have hRet : ∀ (r9 : Int32) (H : Heap) (locs : List Loc) (ls : Array Slot) (pc : Nat) (hK9 : r9 = r) (hdg : decode cX7_ownerOn pc = .ok (.ireturn, 1)), va_P G.1 vwCl (wX7 G ad f) H → va_D A (wX7 G ad f) → va_S A s.heap H locs → W p l e ({ frames := 5, cells := 0, slots := 0, locals := 107 }) s m args below meth c H locs 0 0 (MQ below (Qi0 G A r (wX7 G ad f)) args s 0 0 A) (F0 m pc ls [.int r9]) := by
    intro r9 H locs ls pc hK9 hdg hP hD hS
    cases hK9
    exact W.iret hx hb hr (fun t ht hW => ⟨⟨r, (), rfl, rfl, by rw [ht]; exact hP, hD⟩, hS.F ht⟩) hS.2.2 hdg hlocks
  generalize MQ below (Qi0 G A r (wX7 G ad f)) args s 0 0 A = Q at hRet ⊢
  have lk7 := hts (.fieldLink RX7 7 "FeatherSharesModel" "state" "[I") (by decide +kernel)
  have inX7 : ∀ w ∈ u_ws RX7 TX7 34, w ∈ wsX7_ownerOn := by decide +kernel
  have hl : lv_has ls 4 [(0, .ref (ad 0)), (1, .int x1), (2, .int x2), (3, .int x3)] := hl
  have hK0 : r = r := rfl
  obtain ⟨res, hres, hK⟩ : ∃ res, p_X7_ownerOn f x1 x2 x3 = some res ∧ res = r := ⟨_, hf, rfl⟩
  clear hf
  have hf := hres
  clear hres
  unfold p_X7_ownerOn at hf
  refine lv_iload_n hx hb dX7_ownerOn_0 rfl (lv_at hl 3 rfl) ?_
  refine lv_if_ne (tgt := 13) hx hb dX7_ownerOn_1 (by decide) (fun hc => ?_) (fun hc => ?_)
  · have hf := if_f hf hc
    refine lv_iload_n hx hb dX7_ownerOn_13 rfl (lv_at hl 3 rfl) ?_
    refine lv_iconst (v := (nI 1)) hx hb dX7_ownerOn_14 (ic_1) ?_
    refine lv_icmp_ne (tgt := 32) hx hb dX7_ownerOn_15 (by decide) (fun hc => ?_) (fun hc => ?_)
    · have hf := if_f hf hc
      refine lv_iload_n hx hb dX7_ownerOn_32 rfl (lv_at hl 3 rfl) ?_
      refine lv_iconst (v := (nI 2)) hx hb dX7_ownerOn_33 (ic_2) ?_
      refine lv_icmp_ne (tgt := 46) hx hb dX7_ownerOn_34 (by decide) (fun hc => ?_) (fun hc => ?_)
      · have hf := if_f hf hc
        refine lv_aload_n hx hb dX7_ownerOn_46 rfl (lv_at hl 0 rfl) ?_
        refine lv_iload_n hx hb dX7_ownerOn_47 rfl (lv_at hl 1 rfl) ?_
        refine lv_iload_n hx hb dX7_ownerOn_48 rfl (lv_at hl 2 rfl) ?_
        obtain ⟨r49, hc49, hf⟩ := bd_e hf
        refine cl_i_same (Wd := (wX7 G ad f)) (W' := (wX7 G ad f)) (va_runV (As := [.int x1, .int x2]) (rest := []) hC (c_X7_eggsNow l G ad f x1 x2 r49 hc49 _) (cwV 2 hts gX7_ownerOn_X7_eggsNow rfl rfl rfl (by decide +kernel) ⟨Nat.le_of_ble_eq_true rfl, Nat.le_of_ble_eq_true rfl⟩) ⟨Pc0_blind, va_recv hT hP (q0 := 0) (ci := 7) rfl rfl, fun U hU hW => Pc0_at hE hP hD hU hW⟩ rfl rfl hl.1 rfl (lv_room (Nat.le_of_ble_eq_true rfl)) dX7_ownerOn_49 ⟨Nat.zero_le _, Nat.zero_le _⟩) hS hA hD (fun H locs hP hD hS => ?_)
        have hK9 := K0_of hf hK
        exact hRet r49 _ _ _ _ hK9 dX7_ownerOn_52 hP hD hS
      · have hf := if_t hf hc
        refine lv_aload_n hx hb dX7_ownerOn_37 rfl (lv_at hl 0 rfl) ?_
        refine lv_iload_n hx hb dX7_ownerOn_38 rfl (lv_at hl 1 rfl) ?_
        refine lv_iload_n hx hb dX7_ownerOn_39 rfl (lv_at hl 2 rfl) ?_
        obtain ⟨r40, hc40, hf⟩ := bd_e hf
        refine cl_i_same (Wd := (wX7 G ad f)) (W' := (wX7 G ad f)) (va_runV (As := [.int x1, .int x2]) (rest := []) hC (c_X7_worthOn l G ad f x1 x2 r40 hc40 _) (cwV 2 hts gX7_ownerOn_X7_worthOn rfl rfl rfl (by decide +kernel) ⟨Nat.le_of_ble_eq_true rfl, Nat.le_of_ble_eq_true rfl⟩) ⟨Pc0_blind, va_recv hT hP (q0 := 0) (ci := 7) rfl rfl, fun U hU hW => Pc0_at hE hP hD hU hW⟩ rfl rfl hl.1 rfl (lv_room (Nat.le_of_ble_eq_true rfl)) dX7_ownerOn_40 ⟨Nat.zero_le _, Nat.zero_le _⟩) hS hA hD (fun H locs hP hD hS => ?_)
        refine lv_goto (tgt := 52) hx hb dX7_ownerOn_43 (by decide) ?_
        have hK9 := K0_of hf hK
        exact hRet r40 _ _ _ _ hK9 dX7_ownerOn_52 hP hD hS
    · have hf := if_t hf hc
      refine lv_aload_n hx hb dX7_ownerOn_18 rfl (lv_at hl 0 rfl) ?_
      refine va_get (C := RX7) (T := TX7) (N := 34) (ci := 7) (v := .ref (ad 1)) hx hb hts inX7 hown hT hP 0 rfl rfl 0 (Nat.le_of_ble_eq_true rfl) lk7 (fun _ h => h) rfl dX7_ownerOn_19 ?_
      refine lv_iload_n hx hb dX7_ownerOn_22 rfl (lv_at hl 1 rfl) ?_
      refine lv_bipush (v := (nI 14)) hx hb dX7_ownerOn_23 (bi_14) ?_
      refine lv_iadd hx hb dX7_ownerOn_25 ?_
      refine lv_iload_n hx hb dX7_ownerOn_26 rfl (lv_at hl 2 rfl) ?_
      refine lv_iadd hx hb dX7_ownerOn_27 ?_
      obtain ⟨hg, hf⟩ := gd_e hf
      refine va_iald (f := f 1) hx hb hT hP 1 0 rfl rfl (inb_e hg) dX7_ownerOn_28 ?_
      refine lv_goto (tgt := 52) hx hb dX7_ownerOn_29 (by decide) ?_
      have hK9 := K0_of hf hK
      exact hRet (f 1 ((x1 + (nI 14)) + x2).toNatClampNeg) _ _ _ _ hK9 dX7_ownerOn_52 hP hD hS
  · have hf := if_t hf hc
    refine lv_aload_n hx hb dX7_ownerOn_4 rfl (lv_at hl 0 rfl) ?_
    refine lv_iload_n hx hb dX7_ownerOn_5 rfl (lv_at hl 1 rfl) ?_
    refine lv_iload_n hx hb dX7_ownerOn_6 rfl (lv_at hl 2 rfl) ?_
    obtain ⟨r7, hc7, hf⟩ := bd_e hf
    refine cl_i_same (Wd := (wX7 G ad f)) (W' := (wX7 G ad f)) (va_runV (As := [.int x1, .int x2]) (rest := []) hC (c_X7_moneyOn l G ad f x1 x2 r7 hc7 _) (cwV 2 hts gX7_ownerOn_X7_moneyOn rfl rfl rfl (by decide +kernel) ⟨Nat.le_of_ble_eq_true rfl, Nat.le_of_ble_eq_true rfl⟩) ⟨Pc0_blind, va_recv hT hP (q0 := 0) (ci := 7) rfl rfl, fun U hU hW => Pc0_at hE hP hD hU hW⟩ rfl rfl hl.1 rfl (lv_room (Nat.le_of_ble_eq_true rfl)) dX7_ownerOn_7 ⟨Nat.zero_le _, Nat.zero_le _⟩) hS hA hD (fun H locs hP hD hS => ?_)
    refine lv_goto (tgt := 52) hx hb dX7_ownerOn_10 (by decide) ?_
    have hK9 := K0_of hf hK
    exact hRet r7 _ _ _ _ hK9 dX7_ownerOn_52 hP hD hS
noncomputable def p_X7_owner (f : Mem) (x1 : Int32) (x2 : Int32) : Option (Int32) :=
  Option.bind (p_X7_isOwner x1) <| fun r1 =>
  if r1 = 0 then
    (some (-1 : Int32))
  else
    (Option.bind (p_X7_in ((x2).toInt64) (lN 0) (3 : Int64)) <| fun r13 =>
     if r13 = 0 then
       (some (-1 : Int32))
     else
       (Option.bind (p_X7_ownerOn f (nI 0) x1 x2) <| fun r23 =>
        some r23))
set_option maxHeartbeats 4000000 in
set_option maxRecDepth 100000 in
theorem c_X7_owner (l : Launch) (G : Gt) (ad : Nat → Nat) (f : Mem) (x1 : Int32) (x2 : Int32) (r : Int32) (hf : p_X7_owner f x1 x2 = some r) (sz : Nat) : Met l yX7_owner wsX7_owner ({ frames := 6, cells := 0, slots := 0, locals := 130 }) (Pc0 G sz [.ref (ad 0), .int x1, .int x2] (wX7 G ad f)) (Qi0 G (va_A (wX7 G ad f) sz) r (wX7 G ad f)) 0 0 (va_A (wX7 G ad f) sz) := by
  refine metP (Qf := fun A => Qi0 G A r (wX7 G ad f)) cX7_owner 3 (some .int) (by decide) rfl (Nat.le_of_ble_eq_true rfl) ?_
  intro p e s m below meth c A ls hC hr hlocks hin hE hA hsz hP hD hS hl
  generalize hargs : ([.ref (ad 0), .int x1, .int x2] : List Value).toArray = args at hC ⊢
  obtain ⟨hx, hb, hml, hown, hts⟩ := id hC
  have hT : va_K G.1 vwCl (tyL G) s := hE.1
  have hRet : ∀ (r9 : Int32) (H : Heap) (locs : List Loc) (ls : Array Slot) (pc : Nat) (hK9 : r9 = r) (hdg : decode cX7_owner pc = .ok (.ireturn, 1)), va_P G.1 vwCl (wX7 G ad f) H → va_D A (wX7 G ad f) → va_S A s.heap H locs → W p l e ({ frames := 6, cells := 0, slots := 0, locals := 130 }) s m args below meth c H locs 0 0 (MQ below (Qi0 G A r (wX7 G ad f)) args s 0 0 A) (F0 m pc ls [.int r9]) := by
    intro r9 H locs ls pc hK9 hdg hP hD hS
    cases hK9
    exact W.iret hx hb hr (fun t ht hW => ⟨⟨r, (), rfl, rfl, by rw [ht]; exact hP, hD⟩, hS.F ht⟩) hS.2.2 hdg hlocks
  generalize MQ below (Qi0 G A r (wX7 G ad f)) args s 0 0 A = Q at hRet ⊢
  have hl : lv_has ls 3 [(0, .ref (ad 0)), (1, .int x1), (2, .int x2)] := hl
  have hK0 : r = r := rfl
  obtain ⟨res, hres, hK⟩ : ∃ res, p_X7_owner f x1 x2 = some res ∧ res = r := ⟨_, hf, rfl⟩
  clear hf
  have hf := hres
  clear hres
  unfold p_X7_owner at hf
  refine lv_iload_n hx hb dX7_owner_0 rfl (lv_at hl 1 rfl) ?_
  obtain ⟨r1, hc1, hf⟩ := bd_e hf
  refine cl_z_ro (Wd := (wX7 G ad f)) (Wc := ([] : va_W)) [] rfl (va_runS (As := [.int x1]) (rest := []) hC (c_X7_isOwner l G x1 r1 hc1 _) (va_cwS 1 hts gX7_owner_X7_isOwner rfl rfl rfl (by decide +kernel) ⟨Nat.le_of_ble_eq_true rfl, Nat.le_of_ble_eq_true rfl⟩) ⟨Pc0_blind, fun U hU hW => Pc0_at (Wd := ([] : va_W)) hE (hP.subm [] rfl) (hD.sub [] (by decide) rfl) hU hW⟩ rfl rfl hl.1 rfl (lv_room (Nat.le_of_ble_eq_true rfl)) dX7_owner_1 ⟨Nat.zero_le _, Nat.zero_le _⟩) hS hA hP hD (fun H locs hn1 hP hD hS => ?_)
  refine lv_if_eq (tgt := 29) hx hb dX7_owner_4 (by decide) (fun hc => ?_) (fun hc => ?_)
  · have hf := if_t hf hc
    refine lv_iconst (v := (-1 : Int32)) hx hb dX7_owner_29 (ic_m1) ?_
    have hK9 := K0_of hf hK
    exact hRet (-1 : Int32) _ _ _ _ hK9 dX7_owner_30 hP hD hS
  · have hf := if_f hf hc
    refine lv_iload_n hx hb dX7_owner_7 rfl (lv_at hl 2 rfl) ?_
    refine lv_i2l (v := ((x2).toInt64)) hx hb dX7_owner_8 rfl ?_
    refine lv_lconst (v := (lN 0)) hx hb dX7_owner_9 rfl ?_
    refine W.ldc2 (v := (3 : Int64)) hx hb hown (hts (.constantLong RX7 169 (3 : Int64)) (by decide +kernel)) rfl dX7_owner_10 ?_
    refine W.eq (g2 := F0 m 13 ls [.long (3 : Int64), .long (lN 0), .long ((x2).toInt64)]) rfl ?_
    obtain ⟨r13, hc13, hf⟩ := bd_e hf
    refine cl_z_ro (Wd := (wX7 G ad f)) (Wc := ([] : va_W)) [] rfl (va_runS (As := [.long ((x2).toInt64), .long (lN 0), .long (3 : Int64)]) (rest := []) hC (c_X7_in l G ((x2).toInt64) (lN 0) (3 : Int64) r13 hc13 _) (va_cwS 3 hts gX7_owner_X7_in rfl rfl rfl (by decide +kernel) ⟨Nat.le_of_ble_eq_true rfl, Nat.le_of_ble_eq_true rfl⟩) ⟨Pc0_blind, fun U hU hW => Pc0_at (Wd := ([] : va_W)) hE (hP.subm [] rfl) (hD.sub [] (by decide) rfl) hU hW⟩ rfl rfl hl.1 rfl (lv_room (Nat.le_of_ble_eq_true rfl)) dX7_owner_13 ⟨Nat.zero_le _, Nat.zero_le _⟩) hS hA hP hD (fun H locs hn13 hP hD hS => ?_)
    refine lv_if_eq (tgt := 29) hx hb dX7_owner_16 (by decide) (fun hc => ?_) (fun hc => ?_)
    · have hf := if_t hf hc
      refine lv_iconst (v := (-1 : Int32)) hx hb dX7_owner_29 (ic_m1) ?_
      have hK9 := K0_of hf hK
      exact hRet (-1 : Int32) _ _ _ _ hK9 dX7_owner_30 hP hD hS
    · have hf := if_f hf hc
      refine lv_aload_n hx hb dX7_owner_19 rfl (lv_at hl 0 rfl) ?_
      refine lv_iconst (v := (nI 0)) hx hb dX7_owner_20 (ic_0) ?_
      refine lv_iload_n hx hb dX7_owner_21 rfl (lv_at hl 1 rfl) ?_
      refine lv_iload_n hx hb dX7_owner_22 rfl (lv_at hl 2 rfl) ?_
      obtain ⟨r23, hc23, hf⟩ := bd_e hf
      refine cl_i_same (Wd := (wX7 G ad f)) (W' := (wX7 G ad f)) (va_runV (As := [.int (nI 0), .int x1, .int x2]) (rest := []) hC (c_X7_ownerOn l G ad f (nI 0) x1 x2 r23 hc23 _) (cwV 3 hts gX7_owner_X7_ownerOn rfl rfl rfl (by decide +kernel) ⟨Nat.le_of_ble_eq_true rfl, Nat.le_of_ble_eq_true rfl⟩) ⟨Pc0_blind, va_recv hT hP (q0 := 0) (ci := 7) rfl rfl, fun U hU hW => Pc0_at hE hP hD hU hW⟩ rfl rfl hl.1 rfl (lv_room (Nat.le_of_ble_eq_true rfl)) dX7_owner_23 ⟨Nat.zero_le _, Nat.zero_le _⟩) hS hA hD (fun H locs hP hD hS => ?_)
      refine lv_goto (tgt := 30) hx hb dX7_owner_26 (by decide) ?_
      have hK9 := K0_of hf hK
      exact hRet r23 _ _ _ _ hK9 dX7_owner_30 hP hD hS
noncomputable def p_X7_share (f : Mem) (x1 : Int32) (x2 : Int32) : Option (Int32) :=
  Option.bind (p_X7_isGoose f x1) <| fun r2 =>
  if r2 = 0 then
    (some (-1 : Int32))
  else
    (Option.bind (p_X7_isOwner x2) <| fun r9 =>
     if r9 = 0 then
       (some (-1 : Int32))
     else
       (Option.bind (p_X7_shareOn f (nI 0) x1 x2) <| fun r19 =>
        some r19))
set_option maxHeartbeats 4000000 in
set_option maxRecDepth 100000 in
theorem c_X7_share (l : Launch) (G : Gt) (ad : Nat → Nat) (f : Mem) (x1 : Int32) (x2 : Int32) (r : Int32) (hf : p_X7_share f x1 x2 = some r) (sz : Nat) : Met l yX7_share wsX7_share ({ frames := 3, cells := 0, slots := 0, locals := 58 }) (Pc0 G sz [.ref (ad 0), .int x1, .int x2] (wX7 G ad f)) (Qi0 G (va_A (wX7 G ad f) sz) r (wX7 G ad f)) 0 0 (va_A (wX7 G ad f) sz) := by
  refine metP (Qf := fun A => Qi0 G A r (wX7 G ad f)) cX7_share 3 (some .int) (by decide) rfl (Nat.le_of_ble_eq_true rfl) ?_
  intro p e s m below meth c A ls hC hr hlocks hin hE hA hsz hP hD hS hl
  generalize hargs : ([.ref (ad 0), .int x1, .int x2] : List Value).toArray = args at hC ⊢
  obtain ⟨hx, hb, hml, hown, hts⟩ := id hC
  have hT : va_K G.1 vwCl (tyL G) s := hE.1
  have hRet : ∀ (r9 : Int32) (H : Heap) (locs : List Loc) (ls : Array Slot) (pc : Nat) (hK9 : r9 = r) (hdg : decode cX7_share pc = .ok (.ireturn, 1)), va_P G.1 vwCl (wX7 G ad f) H → va_D A (wX7 G ad f) → va_S A s.heap H locs → W p l e ({ frames := 3, cells := 0, slots := 0, locals := 58 }) s m args below meth c H locs 0 0 (MQ below (Qi0 G A r (wX7 G ad f)) args s 0 0 A) (F0 m pc ls [.int r9]) := by
    intro r9 H locs ls pc hK9 hdg hP hD hS
    cases hK9
    exact W.iret hx hb hr (fun t ht hW => ⟨⟨r, (), rfl, rfl, by rw [ht]; exact hP, hD⟩, hS.F ht⟩) hS.2.2 hdg hlocks
  generalize MQ below (Qi0 G A r (wX7 G ad f)) args s 0 0 A = Q at hRet ⊢
  have hl : lv_has ls 3 [(0, .ref (ad 0)), (1, .int x1), (2, .int x2)] := hl
  have hK0 : r = r := rfl
  obtain ⟨res, hres, hK⟩ : ∃ res, p_X7_share f x1 x2 = some res ∧ res = r := ⟨_, hf, rfl⟩
  clear hf
  have hf := hres
  clear hres
  unfold p_X7_share at hf
  refine lv_aload_n hx hb dX7_share_0 rfl (lv_at hl 0 rfl) ?_
  refine lv_iload_n hx hb dX7_share_1 rfl (lv_at hl 1 rfl) ?_
  obtain ⟨r2, hc2, hf⟩ := bd_e hf
  refine cl_z_same (Wd := (wX7 G ad f)) (W' := (wX7 G ad f)) (va_runV (As := [.int x1]) (rest := []) hC (c_X7_isGoose l G ad f x1 r2 hc2 _) (cwV 1 hts gX7_share_X7_isGoose rfl rfl rfl (by decide +kernel) ⟨Nat.le_of_ble_eq_true rfl, Nat.le_of_ble_eq_true rfl⟩) ⟨Pc0_blind, va_recv hT hP (q0 := 0) (ci := 7) rfl rfl, fun U hU hW => Pc0_at hE hP hD hU hW⟩ rfl rfl hl.1 rfl (lv_room (Nat.le_of_ble_eq_true rfl)) dX7_share_2 ⟨Nat.zero_le _, Nat.zero_le _⟩) hS hA hD (fun H locs hn2 hP hD hS => ?_)
  refine lv_if_eq (tgt := 25) hx hb dX7_share_5 (by decide) (fun hc => ?_) (fun hc => ?_)
  · have hf := if_t hf hc
    refine lv_iconst (v := (-1 : Int32)) hx hb dX7_share_25 (ic_m1) ?_
    have hK9 := K0_of hf hK
    exact hRet (-1 : Int32) _ _ _ _ hK9 dX7_share_26 hP hD hS
  · have hf := if_f hf hc
    refine lv_iload_n hx hb dX7_share_8 rfl (lv_at hl 2 rfl) ?_
    obtain ⟨r9, hc9, hf⟩ := bd_e hf
    refine cl_z_ro (Wd := (wX7 G ad f)) (Wc := ([] : va_W)) [] rfl (va_runS (As := [.int x2]) (rest := []) hC (c_X7_isOwner l G x2 r9 hc9 _) (va_cwS 1 hts gX7_share_X7_isOwner rfl rfl rfl (by decide +kernel) ⟨Nat.le_of_ble_eq_true rfl, Nat.le_of_ble_eq_true rfl⟩) ⟨Pc0_blind, fun U hU hW => Pc0_at (Wd := ([] : va_W)) hE (hP.subm [] rfl) (hD.sub [] (by decide) rfl) hU hW⟩ rfl rfl hl.1 rfl (lv_room (Nat.le_of_ble_eq_true rfl)) dX7_share_9 ⟨Nat.zero_le _, Nat.zero_le _⟩) hS hA hP hD (fun H locs hn9 hP hD hS => ?_)
    refine lv_if_eq (tgt := 25) hx hb dX7_share_12 (by decide) (fun hc => ?_) (fun hc => ?_)
    · have hf := if_t hf hc
      refine lv_iconst (v := (-1 : Int32)) hx hb dX7_share_25 (ic_m1) ?_
      have hK9 := K0_of hf hK
      exact hRet (-1 : Int32) _ _ _ _ hK9 dX7_share_26 hP hD hS
    · have hf := if_f hf hc
      refine lv_aload_n hx hb dX7_share_15 rfl (lv_at hl 0 rfl) ?_
      refine lv_iconst (v := (nI 0)) hx hb dX7_share_16 (ic_0) ?_
      refine lv_iload_n hx hb dX7_share_17 rfl (lv_at hl 1 rfl) ?_
      refine lv_iload_n hx hb dX7_share_18 rfl (lv_at hl 2 rfl) ?_
      obtain ⟨r19, hc19, hf⟩ := bd_e hf
      refine cl_i_same (Wd := (wX7 G ad f)) (W' := (wX7 G ad f)) (va_runV (As := [.int (nI 0), .int x1, .int x2]) (rest := []) hC (c_X7_shareOn l G ad f (nI 0) x1 x2 r19 hc19 _) (cwV 3 hts gX7_share_X7_shareOn rfl rfl rfl (by decide +kernel) ⟨Nat.le_of_ble_eq_true rfl, Nat.le_of_ble_eq_true rfl⟩) ⟨Pc0_blind, va_recv hT hP (q0 := 0) (ci := 7) rfl rfl, fun U hU hW => Pc0_at hE hP hD hU hW⟩ rfl rfl hl.1 rfl (lv_room (Nat.le_of_ble_eq_true rfl)) dX7_share_19 ⟨Nat.zero_le _, Nat.zero_le _⟩) hS hA hD (fun H locs hP hD hS => ?_)
      refine lv_goto (tgt := 26) hx hb dX7_share_22 (by decide) ?_
      have hK9 := K0_of hf hK
      exact hRet r19 _ _ _ _ hK9 dX7_share_26 hP hD hS
noncomputable def p_X7_trade (f : Mem) (x1 : Int32) (x2 : Int32) : Option (Int32) :=
  gd (inb (nI 59) 360) <|
  Option.bind (p_X7_in ((x1).toInt64) (lN 0) (((f 1 (nI 59).toNatClampNeg) - (nI 1)).toInt64)) <| fun r13 =>
  if r13 = 0 then
    (some (-1 : Int32))
  else
    (Option.bind (p_X7_in ((x2).toInt64) (lN 0) (3 : Int64)) <| fun r25 =>
     if r25 = 0 then
       (some (-1 : Int32))
     else
       (gd (inb (((nI 35) + ((nI 4) * x1)) + x2) 360) <|
        some (f 1 (((nI 35) + ((nI 4) * x1)) + x2).toNatClampNeg)))
set_option maxHeartbeats 4000000 in
set_option maxRecDepth 100000 in
theorem c_X7_trade (l : Launch) (G : Gt) (ad : Nat → Nat) (f : Mem) (x1 : Int32) (x2 : Int32) (r : Int32) (hf : p_X7_trade f x1 x2 = some r) (sz : Nat) : Met l yX7_trade wsX7_trade ({ frames := 2, cells := 0, slots := 0, locals := 37 }) (Pc0 G sz [.ref (ad 0), .int x1, .int x2] (wX7 G ad f)) (Qi0 G (va_A (wX7 G ad f) sz) r (wX7 G ad f)) 0 0 (va_A (wX7 G ad f) sz) := by
  refine metP (Qf := fun A => Qi0 G A r (wX7 G ad f)) cX7_trade 3 (some .int) (by decide) rfl (Nat.le_of_ble_eq_true rfl) ?_
  intro p e s m below meth c A ls hC hr hlocks hin hE hA hsz hP hD hS hl
  generalize hargs : ([.ref (ad 0), .int x1, .int x2] : List Value).toArray = args at hC ⊢
  obtain ⟨hx, hb, hml, hown, hts⟩ := id hC
  have hT : va_K G.1 vwCl (tyL G) s := hE.1
  have hRet : ∀ (r9 : Int32) (H : Heap) (locs : List Loc) (ls : Array Slot) (pc : Nat) (hK9 : r9 = r) (hdg : decode cX7_trade pc = .ok (.ireturn, 1)), va_P G.1 vwCl (wX7 G ad f) H → va_D A (wX7 G ad f) → va_S A s.heap H locs → W p l e ({ frames := 2, cells := 0, slots := 0, locals := 37 }) s m args below meth c H locs 0 0 (MQ below (Qi0 G A r (wX7 G ad f)) args s 0 0 A) (F0 m pc ls [.int r9]) := by
    intro r9 H locs ls pc hK9 hdg hP hD hS
    cases hK9
    exact W.iret hx hb hr (fun t ht hW => ⟨⟨r, (), rfl, rfl, by rw [ht]; exact hP, hD⟩, hS.F ht⟩) hS.2.2 hdg hlocks
  generalize MQ below (Qi0 G A r (wX7 G ad f)) args s 0 0 A = Q at hRet ⊢
  have lk7 := hts (.fieldLink RX7 7 "FeatherSharesModel" "state" "[I") (by decide +kernel)
  have inX7 : ∀ w ∈ u_ws RX7 TX7 34, w ∈ wsX7_trade := by decide +kernel
  have hl : lv_has ls 3 [(0, .ref (ad 0)), (1, .int x1), (2, .int x2)] := hl
  have hK0 : r = r := rfl
  obtain ⟨res, hres, hK⟩ : ∃ res, p_X7_trade f x1 x2 = some res ∧ res = r := ⟨_, hf, rfl⟩
  clear hf
  have hf := hres
  clear hres
  unfold p_X7_trade at hf
  refine lv_iload_n hx hb dX7_trade_0 rfl (lv_at hl 1 rfl) ?_
  refine lv_i2l (v := ((x1).toInt64)) hx hb dX7_trade_1 rfl ?_
  refine lv_lconst (v := (lN 0)) hx hb dX7_trade_2 rfl ?_
  refine lv_aload_n hx hb dX7_trade_3 rfl (lv_at hl 0 rfl) ?_
  refine va_get (C := RX7) (T := TX7) (N := 34) (ci := 7) (v := .ref (ad 1)) hx hb hts inX7 hown hT hP 0 rfl rfl 0 (Nat.le_of_ble_eq_true rfl) lk7 (fun _ h => h) rfl dX7_trade_4 ?_
  refine lv_bipush (v := (nI 59)) hx hb dX7_trade_7 (bi_59) ?_
  obtain ⟨hg, hf⟩ := gd_e hf
  refine va_iald (f := f 1) hx hb hT hP 1 0 rfl rfl (inb_e hg) dX7_trade_9 ?_
  refine lv_iconst (v := (nI 1)) hx hb dX7_trade_10 (ic_1) ?_
  refine lv_isub hx hb dX7_trade_11 ?_
  refine lv_i2l (v := (((f 1 (nI 59).toNatClampNeg) - (nI 1)).toInt64)) hx hb dX7_trade_12 rfl ?_
  obtain ⟨r13, hc13, hf⟩ := bd_e hf
  refine cl_z_ro (Wd := (wX7 G ad f)) (Wc := ([] : va_W)) [] rfl (va_runS (As := [.long ((x1).toInt64), .long (lN 0), .long (((f 1 (nI 59).toNatClampNeg) - (nI 1)).toInt64)]) (rest := []) hC (c_X7_in l G ((x1).toInt64) (lN 0) (((f 1 (nI 59).toNatClampNeg) - (nI 1)).toInt64) r13 hc13 _) (va_cwS 3 hts gX7_trade_X7_in rfl rfl rfl (by decide +kernel) ⟨Nat.le_of_ble_eq_true rfl, Nat.le_of_ble_eq_true rfl⟩) ⟨Pc0_blind, fun U hU hW => Pc0_at (Wd := ([] : va_W)) hE (hP.subm [] rfl) (hD.sub [] (by decide) rfl) hU hW⟩ rfl rfl hl.1 rfl (lv_room (Nat.le_of_ble_eq_true rfl)) dX7_trade_13 ⟨Nat.zero_le _, Nat.zero_le _⟩) hS hA hP hD (fun H locs hn13 hP hD hS => ?_)
  refine lv_if_eq (tgt := 47) hx hb dX7_trade_16 (by decide) (fun hc => ?_) (fun hc => ?_)
  · have hf := if_t hf hc
    refine lv_iconst (v := (-1 : Int32)) hx hb dX7_trade_47 (ic_m1) ?_
    have hK9 := K0_of hf hK
    exact hRet (-1 : Int32) _ _ _ _ hK9 dX7_trade_48 hP hD hS
  · have hf := if_f hf hc
    refine lv_iload_n hx hb dX7_trade_19 rfl (lv_at hl 2 rfl) ?_
    refine lv_i2l (v := ((x2).toInt64)) hx hb dX7_trade_20 rfl ?_
    refine lv_lconst (v := (lN 0)) hx hb dX7_trade_21 rfl ?_
    refine W.ldc2 (v := (3 : Int64)) hx hb hown (hts (.constantLong RX7 169 (3 : Int64)) (by decide +kernel)) rfl dX7_trade_22 ?_
    refine W.eq (g2 := F0 m 25 ls [.long (3 : Int64), .long (lN 0), .long ((x2).toInt64)]) rfl ?_
    obtain ⟨r25, hc25, hf⟩ := bd_e hf
    refine cl_z_ro (Wd := (wX7 G ad f)) (Wc := ([] : va_W)) [] rfl (va_runS (As := [.long ((x2).toInt64), .long (lN 0), .long (3 : Int64)]) (rest := []) hC (c_X7_in l G ((x2).toInt64) (lN 0) (3 : Int64) r25 hc25 _) (va_cwS 3 hts gX7_trade_X7_in rfl rfl rfl (by decide +kernel) ⟨Nat.le_of_ble_eq_true rfl, Nat.le_of_ble_eq_true rfl⟩) ⟨Pc0_blind, fun U hU hW => Pc0_at (Wd := ([] : va_W)) hE (hP.subm [] rfl) (hD.sub [] (by decide) rfl) hU hW⟩ rfl rfl hl.1 rfl (lv_room (Nat.le_of_ble_eq_true rfl)) dX7_trade_25 ⟨Nat.zero_le _, Nat.zero_le _⟩) hS hA hP hD (fun H locs hn25 hP hD hS => ?_)
    refine lv_if_eq (tgt := 47) hx hb dX7_trade_28 (by decide) (fun hc => ?_) (fun hc => ?_)
    · have hf := if_t hf hc
      refine lv_iconst (v := (-1 : Int32)) hx hb dX7_trade_47 (ic_m1) ?_
      have hK9 := K0_of hf hK
      exact hRet (-1 : Int32) _ _ _ _ hK9 dX7_trade_48 hP hD hS
    · have hf := if_f hf hc
      refine lv_aload_n hx hb dX7_trade_31 rfl (lv_at hl 0 rfl) ?_
      refine va_get (C := RX7) (T := TX7) (N := 34) (ci := 7) (v := .ref (ad 1)) hx hb hts inX7 hown hT hP 0 rfl rfl 0 (Nat.le_of_ble_eq_true rfl) lk7 (fun _ h => h) rfl dX7_trade_32 ?_
      refine lv_bipush (v := (nI 35)) hx hb dX7_trade_35 (bi_35) ?_
      refine lv_iconst (v := (nI 4)) hx hb dX7_trade_37 (ic_4) ?_
      refine lv_iload_n hx hb dX7_trade_38 rfl (lv_at hl 1 rfl) ?_
      refine lv_imul hx hb dX7_trade_39 ?_
      refine lv_iadd hx hb dX7_trade_40 ?_
      refine lv_iload_n hx hb dX7_trade_41 rfl (lv_at hl 2 rfl) ?_
      refine lv_iadd hx hb dX7_trade_42 ?_
      obtain ⟨hg, hf⟩ := gd_e hf
      refine va_iald (f := f 1) hx hb hT hP 1 0 rfl rfl (inb_e hg) dX7_trade_43 ?_
      refine lv_goto (tgt := 48) hx hb dX7_trade_44 (by decide) ?_
      have hK9 := K0_of hf hK
      exact hRet (f 1 (((nI 35) + ((nI 4) * x1)) + x2).toNatClampNeg) _ _ _ _ hK9 dX7_trade_48 hP hD hS
noncomputable def p_X7_puts (f : Mem) (x1 : Int32) (x2 : Int32) (x3 : Int32) (x4 : Int32) : Option (Int32 × Mem) :=
  if x1 = 0 then
    (some ((-1 : Int32), f))
  else
    (gd (inb x2 360) <|
     gd (inb x2 360) <|
     bnd (upd (f 1) x2.toNatClampNeg (x3 - x4)) <| fun g26 =>
     some (((f 1 x2.toNatClampNeg) + x4), (mrow 1 (g26) f)))
set_option maxHeartbeats 4000000 in
set_option maxRecDepth 100000 in
theorem c_X7_puts (l : Launch) (G : Gt) (ad : Nat → Nat) (f : Mem) (x1 : Int32) (x2 : Int32) (x3 : Int32) (x4 : Int32) (r : Int32) (fz : Mem) (hf : p_X7_puts f x1 x2 x3 x4 = some (r, fz)) (sz : Nat) : Met l yX7_puts wsX7_puts ({ frames := 1, cells := 0, slots := 0, locals := 12 }) (Pc0 G sz [.ref (ad 0), .int x1, .int x2, .int x3, .int x4] (wX7 G ad f)) (Qi0 G (va_A (wX7 G ad f) sz) r (wX7 G ad fz)) 0 0 (va_A (wX7 G ad f) sz) := by
  refine metP (Qf := fun A => Qi0 G A r (wX7 G ad fz)) cX7_puts 6 (some .int) (by decide) rfl (Nat.le_of_ble_eq_true rfl) ?_
  intro p e s m below meth c A ls hC hr hlocks hin hE hA hsz hP hD hS hl
  generalize hargs : ([.ref (ad 0), .int x1, .int x2, .int x3, .int x4] : List Value).toArray = args at hC ⊢
  obtain ⟨hx, hb, hml, hown, hts⟩ := id hC
  have hT : va_K G.1 vwCl (tyL G) s := hE.1
  have hRet : ∀ (r9 : Int32) (f9 : Mem) (H : Heap) (locs : List Loc) (ls : Array Slot) (pc : Nat) (hK9 : (r9, f9) = (r, fz)) (hdg : decode cX7_puts pc = .ok (.ireturn, 1)), va_P G.1 vwCl (wX7 G ad f9) H → va_D A (wX7 G ad f9) → va_S A s.heap H locs → W p l e ({ frames := 1, cells := 0, slots := 0, locals := 12 }) s m args below meth c H locs 0 0 (MQ below (Qi0 G A r (wX7 G ad fz)) args s 0 0 A) (F0 m pc ls [.int r9]) := by
    intro r9 f9 H locs ls pc hK9 hdg hP hD hS
    cases hK9
    exact W.iret hx hb hr (fun t ht hW => ⟨⟨r, (), rfl, rfl, by rw [ht]; exact hP, hD⟩, hS.F ht⟩) hS.2.2 hdg hlocks
  generalize MQ below (Qi0 G A r (wX7 G ad fz)) args s 0 0 A = Q at hRet ⊢
  have lk7 := hts (.fieldLink RX7 7 "FeatherSharesModel" "state" "[I") (by decide +kernel)
  have inX7 : ∀ w ∈ u_ws RX7 TX7 34, w ∈ wsX7_puts := by decide +kernel
  have hl : lv_has ls 6 [(0, .ref (ad 0)), (1, .int x1), (2, .int x2), (3, .int x3), (4, .int x4)] := hl
  have hK0 : (r, fz) = (r, fz) := rfl
  obtain ⟨res, hres, hK⟩ : ∃ res, p_X7_puts f x1 x2 x3 x4 = some res ∧ res = (r, fz) := ⟨_, hf, rfl⟩
  clear hf
  have hf := hres
  clear hres
  unfold p_X7_puts at hf
  refine lv_iload_n hx hb dX7_puts_0 rfl (lv_at hl 1 rfl) ?_
  refine lv_if_ne (tgt := 6) hx hb dX7_puts_1 (by decide) (fun hc => ?_) (fun hc => ?_)
  · have hf := if_f hf hc
    refine lv_aload_n hx hb dX7_puts_6 rfl (lv_at hl 0 rfl) ?_
    refine va_get (C := RX7) (T := TX7) (N := 34) (ci := 7) (v := .ref (ad 1)) hx hb hts inX7 hown hT hP 0 rfl rfl 0 (Nat.le_of_ble_eq_true rfl) lk7 (fun _ h => h) rfl dX7_puts_7 ?_
    refine lv_iload_n hx hb dX7_puts_10 rfl (lv_at hl 2 rfl) ?_
    obtain ⟨hg, hf⟩ := gd_e hf
    refine va_iald (f := f 1) hx hb hT hP 1 0 rfl rfl (inb_e hg) dX7_puts_11 ?_
    refine lv_iload hx hb dX7_puts_12 (lv_at hl 4 rfl) ?_
    refine lv_iadd hx hb dX7_puts_14 ?_
    refine lv_istore (lv' := [(5, .int ((f 1 x2.toNatClampNeg) + x4)), (0, .ref (ad 0)), (1, .int x1), (2, .int x2), (3, .int x3), (4, .int x4)]) hx hb dX7_puts_15 hl (by decide) rfl (fun ls hl => ?_)
    refine lv_aload_n hx hb dX7_puts_17 rfl (lv_at hl 1 rfl) ?_
    refine va_get (C := RX7) (T := TX7) (N := 34) (ci := 7) (v := .ref (ad 1)) hx hb hts inX7 hown hT hP 0 rfl rfl 0 (Nat.le_of_ble_eq_true rfl) lk7 (fun _ h => h) rfl dX7_puts_18 ?_
    refine lv_iload_n hx hb dX7_puts_21 rfl (lv_at hl 3 rfl) ?_
    refine lv_iload_n hx hb dX7_puts_22 rfl (lv_at hl 4 rfl) ?_
    refine lv_iload hx hb dX7_puts_23 (lv_at hl 5 rfl) ?_
    refine lv_isub hx hb dX7_puts_25 ?_
    obtain ⟨hg, hf⟩ := gd_e hf
    obtain ⟨g26, eg26, hf⟩ := bnd_e hf
    refine va_iast (f := f 1) hx hb hT hP hD hS 1 0 rfl rfl (inb_e hg) dX7_puts_26 (fun H locs hP hD hS => ?_)
    rw [← eg26] at hP hD
    have hP : va_P G.1 vwCl (wX7 G ad (mrow 1 (g26) f)) H := hP
    have hD : va_D A (wX7 G ad (mrow 1 (g26) f)) := hD
    refine lv_iload hx hb dX7_puts_27 (lv_at hl 0 rfl) ?_
    have hK9 := K0_of hf hK
    exact hRet ((f 1 x2.toNatClampNeg) + x4) (mrow 1 (g26) f) _ _ _ _ hK9 dX7_puts_29 hP hD hS
  · have hf := if_t hf hc
    refine lv_iconst (v := (-1 : Int32)) hx hb dX7_puts_4 (ic_m1) ?_
    have hK9 := K0_of hf hK
    exact hRet (-1 : Int32) f _ _ _ _ hK9 dX7_puts_5 hP hD hS
noncomputable def p_X7_alter_B71 (f : Mem) (x1 : Int32) (x2 : Int32) (x3 : Int32) (s0 : Int32) : Option (Int32 × Mem) :=
  Option.bind (p_X7_puts f s0 (((nI 3) * x2) + x1) x3 (nI 0)) <| fun (r78, f_78) =>
  some (r78, f_78)
noncomputable def p_X7_alter_B70 (f : Mem) (x1 : Int32) (x2 : Int32) (x3 : Int32) : Option (Int32 × Mem) :=
  p_X7_alter_B71 f x1 x2 x3 (nI 0)
noncomputable def p_X7_alter_B50 (f : Mem) (x1 : Int32) (x2 : Int32) (x3 : Int32) (s0 : Int32) : Option (Int32 × Mem) :=
  Option.bind (p_X7_isGoose f x1) <| fun r55 =>
  if r55 = 0 then
    (p_X7_alter_B70 f x1 x2 x3)
  else
    (if s0 = 0 then
       (p_X7_alter_B70 f x1 x2 x3)
     else
       (p_X7_alter_B71 f x1 x2 x3 (nI 1)))
noncomputable def p_X7_alter_B49 (f : Mem) (x1 : Int32) (x2 : Int32) (x3 : Int32) : Option (Int32 × Mem) :=
  p_X7_alter_B50 f x1 x2 x3 (nI 0)
noncomputable def p_X7_alter (f : Mem) (x1 : Int32) (x2 : Int32) (x3 : Int32) : Option (Int32 × Mem) :=
  if x2 = 0 then
    (Option.bind (p_X7_in ((x3).toInt64) (lN 0) (3 : Int64)) <| fun r10 =>
     p_X7_alter_B50 f x1 x2 x3 r10)
  else
    (if x2 = (nI 1) then
       (Option.bind (p_X7_isOwner x3) <| fun r22 =>
        p_X7_alter_B50 f x1 x2 x3 r22)
     else
       (if x2 = (nI 2) then
          (Option.bind (p_X7_in ((x3).toInt64) (lN 1) (9 : Int64)) <| fun r39 =>
           if r39 = 0 then
             (p_X7_alter_B49 f x1 x2 x3)
           else
             (p_X7_alter_B50 f x1 x2 x3 (nI 1)))
        else
          (p_X7_alter_B49 f x1 x2 x3)))
set_option maxHeartbeats 4000000 in
set_option maxRecDepth 100000 in
theorem c_X7_alter (l : Launch) (G : Gt) (ad : Nat → Nat) (f : Mem) (x1 : Int32) (x2 : Int32) (x3 : Int32) (r : Int32) (fz : Mem) (hf : p_X7_alter f x1 x2 x3 = some (r, fz)) (sz : Nat) : Met l yX7_alter wsX7_alter ({ frames := 3, cells := 0, slots := 0, locals := 58 }) (Pc0 G sz [.ref (ad 0), .int x1, .int x2, .int x3] (wX7 G ad f)) (Qi0 G (va_A (wX7 G ad f) sz) r (wX7 G ad fz)) 0 0 (va_A (wX7 G ad f) sz) := by
  refine metP (Qf := fun A => Qi0 G A r (wX7 G ad fz)) cX7_alter 5 (some .int) (by decide) rfl (Nat.le_of_ble_eq_true rfl) ?_
  intro p e s m below meth c A ls hC hr hlocks hin hE hA hsz hP hD hS hl
  generalize hargs : ([.ref (ad 0), .int x1, .int x2, .int x3] : List Value).toArray = args at hC ⊢
  obtain ⟨hx, hb, hml, hown, hts⟩ := id hC
  have hT : va_K G.1 vwCl (tyL G) s := hE.1
  have hRet : ∀ (r9 : Int32) (f9 : Mem) (H : Heap) (locs : List Loc) (ls : Array Slot) (pc : Nat) (hK9 : (r9, f9) = (r, fz)) (hdg : decode cX7_alter pc = .ok (.ireturn, 1)), va_P G.1 vwCl (wX7 G ad f9) H → va_D A (wX7 G ad f9) → va_S A s.heap H locs → W p l e ({ frames := 3, cells := 0, slots := 0, locals := 58 }) s m args below meth c H locs 0 0 (MQ below (Qi0 G A r (wX7 G ad fz)) args s 0 0 A) (F0 m pc ls [.int r9]) := by
    intro r9 f9 H locs ls pc hK9 hdg hP hD hS
    cases hK9
    exact W.iret hx hb hr (fun t ht hW => ⟨⟨r, (), rfl, rfl, by rw [ht]; exact hP, hD⟩, hS.F ht⟩) hS.2.2 hdg hlocks
  generalize MQ below (Qi0 G A r (wX7 G ad fz)) args s 0 0 A = Q at hRet ⊢
  have hl : lv_has ls 5 [(0, .ref (ad 0)), (1, .int x1), (2, .int x2), (3, .int x3)] := hl
  have hK0 : (r, fz) = (r, fz) := rfl
  have hB71 : ∀ (f : Mem) (x1 : Int32) (x2 : Int32) (x3 : Int32) (s0 : Int32) (res : Int32 × Mem) (hf : p_X7_alter_B71 f x1 x2 x3 s0 = some res) (hK : res = (r, fz)), ∀ (H : Heap) (locs : List Loc) (ls : Array Slot), va_P G.1 vwCl (wX7 G ad f) H → va_D A (wX7 G ad f) → va_S A s.heap H locs → lv_has ls 5 [(1, .int x1), (2, .int x2), (3, .int x3)] → W p l e ({ frames := 3, cells := 0, slots := 0, locals := 58 }) s m args below meth c H locs 0 0 Q (F0 m 71 ls [.int s0, .ref (ad 0)]) := by
    intro f x1 x2 x3 s0 res hf hK H locs ls hP hD hS hl
    unfold p_X7_alter_B71 at hf
    refine lv_iconst (v := (nI 3)) hx hb dX7_alter_71 (ic_3) ?_
    refine lv_iload_n hx hb dX7_alter_72 rfl (lv_at hl 1 rfl) ?_
    refine lv_imul hx hb dX7_alter_73 ?_
    refine lv_iload_n hx hb dX7_alter_74 rfl (lv_at hl 0 rfl) ?_
    refine lv_iadd hx hb dX7_alter_75 ?_
    refine lv_iload_n hx hb dX7_alter_76 rfl (lv_at hl 2 rfl) ?_
    refine lv_iconst (v := (nI 0)) hx hb dX7_alter_77 (ic_0) ?_
    obtain ⟨⟨r78, f_78⟩, hc78, hf⟩ := bd_e hf
    try dsimp only at hf
    refine cl_i_same (Wd := (wX7 G ad f)) (W' := (wX7 G ad f_78)) (va_runV (As := [.int s0, .int (((nI 3) * x2) + x1), .int x3, .int (nI 0)]) (rest := []) hC (c_X7_puts l G ad f s0 (((nI 3) * x2) + x1) x3 (nI 0) r78 f_78 hc78 _) (cwV 4 hts gX7_alter_X7_puts rfl rfl rfl (by decide +kernel) ⟨Nat.le_of_ble_eq_true rfl, Nat.le_of_ble_eq_true rfl⟩) ⟨Pc0_blind, va_recv hT hP (q0 := 0) (ci := 7) rfl rfl, fun U hU hW => Pc0_at hE hP hD hU hW⟩ rfl rfl hl.1 rfl (lv_room (Nat.le_of_ble_eq_true rfl)) dX7_alter_78 ⟨Nat.zero_le _, Nat.zero_le _⟩) hS hA hD (fun H locs hP hD hS => ?_)
    have hK9 := K0_of hf hK
    exact hRet r78 f_78 _ _ _ _ hK9 dX7_alter_81 hP hD hS
  have hB70 : ∀ (f : Mem) (x1 : Int32) (x2 : Int32) (x3 : Int32) (res : Int32 × Mem) (hf : p_X7_alter_B70 f x1 x2 x3 = some res) (hK : res = (r, fz)), ∀ (H : Heap) (locs : List Loc) (ls : Array Slot), va_P G.1 vwCl (wX7 G ad f) H → va_D A (wX7 G ad f) → va_S A s.heap H locs → lv_has ls 5 [(1, .int x1), (2, .int x2), (3, .int x3)] → W p l e ({ frames := 3, cells := 0, slots := 0, locals := 58 }) s m args below meth c H locs 0 0 Q (F0 m 70 ls [.ref (ad 0)]) := by
    intro f x1 x2 x3 res hf hK H locs ls hP hD hS hl
    unfold p_X7_alter_B70 at hf
    refine lv_iconst (v := (nI 0)) hx hb dX7_alter_70 (ic_0) ?_
    exact hB71 f x1 x2 x3 (nI 0) _ hf hK _ _ _ hP hD hS (lv_sub hl [0, 1, 2] rfl)
  have hB50 : ∀ (f : Mem) (x1 : Int32) (x2 : Int32) (x3 : Int32) (s0 : Int32) (res : Int32 × Mem) (hf : p_X7_alter_B50 f x1 x2 x3 s0 = some res) (hK : res = (r, fz)), ∀ (H : Heap) (locs : List Loc) (ls : Array Slot), va_P G.1 vwCl (wX7 G ad f) H → va_D A (wX7 G ad f) → va_S A s.heap H locs → lv_has ls 5 [(0, .ref (ad 0)), (1, .int x1), (2, .int x2), (3, .int x3)] → W p l e ({ frames := 3, cells := 0, slots := 0, locals := 58 }) s m args below meth c H locs 0 0 Q (F0 m 50 ls [.int s0]) := by
    intro f x1 x2 x3 s0 res hf hK H locs ls hP hD hS hl
    unfold p_X7_alter_B50 at hf
    refine lv_istore (lv' := [(4, .int s0), (0, .ref (ad 0)), (1, .int x1), (2, .int x2), (3, .int x3)]) hx hb dX7_alter_50 hl (by decide) rfl (fun ls hl => ?_)
    refine lv_aload_n hx hb dX7_alter_52 rfl (lv_at hl 1 rfl) ?_
    refine lv_aload_n hx hb dX7_alter_53 rfl (lv_at hl 1 rfl) ?_
    refine lv_iload_n hx hb dX7_alter_54 rfl (lv_at hl 2 rfl) ?_
    obtain ⟨r55, hc55, hf⟩ := bd_e hf
    refine cl_z_same (Wd := (wX7 G ad f)) (W' := (wX7 G ad f)) (va_runV (As := [.int x1]) (rest := [.ref (ad 0)]) hC (c_X7_isGoose l G ad f x1 r55 hc55 _) (cwV 1 hts gX7_alter_X7_isGoose rfl rfl rfl (by decide +kernel) ⟨Nat.le_of_ble_eq_true rfl, Nat.le_of_ble_eq_true rfl⟩) ⟨Pc0_blind, va_recv hT hP (q0 := 0) (ci := 7) rfl rfl, fun U hU hW => Pc0_at hE hP hD hU hW⟩ rfl rfl hl.1 rfl (lv_room (Nat.le_of_ble_eq_true rfl)) dX7_alter_55 ⟨Nat.zero_le _, Nat.zero_le _⟩) hS hA hD (fun H locs hn55 hP hD hS => ?_)
    refine lv_if_eq (tgt := 70) hx hb dX7_alter_58 (by decide) (fun hc => ?_) (fun hc => ?_)
    · have hf := if_t hf hc
      exact hB70 f x1 x2 x3 _ hf hK _ _ _ hP hD hS (lv_sub hl [2, 3, 4] rfl)
    · have hf := if_f hf hc
      refine lv_iload hx hb dX7_alter_61 (lv_at hl 0 rfl) ?_
      refine lv_if_eq (tgt := 70) hx hb dX7_alter_63 (by decide) (fun hc => ?_) (fun hc => ?_)
      · have hf := if_t hf hc
        exact hB70 f x1 x2 x3 _ hf hK _ _ _ hP hD hS (lv_sub hl [2, 3, 4] rfl)
      · have hf := if_f hf hc
        refine lv_iconst (v := (nI 1)) hx hb dX7_alter_66 (ic_1) ?_
        refine lv_goto (tgt := 71) hx hb dX7_alter_67 (by decide) ?_
        exact hB71 f x1 x2 x3 (nI 1) _ hf hK _ _ _ hP hD hS (lv_sub hl [2, 3, 4] rfl)
  have hB49 : ∀ (f : Mem) (x1 : Int32) (x2 : Int32) (x3 : Int32) (res : Int32 × Mem) (hf : p_X7_alter_B49 f x1 x2 x3 = some res) (hK : res = (r, fz)), ∀ (H : Heap) (locs : List Loc) (ls : Array Slot), va_P G.1 vwCl (wX7 G ad f) H → va_D A (wX7 G ad f) → va_S A s.heap H locs → lv_has ls 5 [(0, .ref (ad 0)), (1, .int x1), (2, .int x2), (3, .int x3)] → W p l e ({ frames := 3, cells := 0, slots := 0, locals := 58 }) s m args below meth c H locs 0 0 Q (F0 m 49 ls []) := by
    intro f x1 x2 x3 res hf hK H locs ls hP hD hS hl
    unfold p_X7_alter_B49 at hf
    refine lv_iconst (v := (nI 0)) hx hb dX7_alter_49 (ic_0) ?_
    exact hB50 f x1 x2 x3 (nI 0) _ hf hK _ _ _ hP hD hS (lv_sub hl [0, 1, 2, 3] rfl)
  obtain ⟨res, hres, hK⟩ : ∃ res, p_X7_alter f x1 x2 x3 = some res ∧ res = (r, fz) := ⟨_, hf, rfl⟩
  clear hf
  have hf := hres
  clear hres
  unfold p_X7_alter at hf
  refine lv_iload_n hx hb dX7_alter_0 rfl (lv_at hl 2 rfl) ?_
  refine lv_if_ne (tgt := 16) hx hb dX7_alter_1 (by decide) (fun hc => ?_) (fun hc => ?_)
  · have hf := if_f hf hc
    refine lv_iload_n hx hb dX7_alter_16 rfl (lv_at hl 2 rfl) ?_
    refine lv_iconst (v := (nI 1)) hx hb dX7_alter_17 (ic_1) ?_
    refine lv_icmp_ne (tgt := 28) hx hb dX7_alter_18 (by decide) (fun hc => ?_) (fun hc => ?_)
    · have hf := if_f hf hc
      refine lv_iload_n hx hb dX7_alter_28 rfl (lv_at hl 2 rfl) ?_
      refine lv_iconst (v := (nI 2)) hx hb dX7_alter_29 (ic_2) ?_
      refine lv_icmp_ne (tgt := 49) hx hb dX7_alter_30 (by decide) (fun hc => ?_) (fun hc => ?_)
      · have hf := if_f hf hc
        exact hB49 f x1 x2 x3 _ hf hK _ _ _ hP hD hS (lv_sub hl [0, 1, 2, 3] rfl)
      · have hf := if_t hf hc
        refine lv_iload_n hx hb dX7_alter_33 rfl (lv_at hl 3 rfl) ?_
        refine lv_i2l (v := ((x3).toInt64)) hx hb dX7_alter_34 rfl ?_
        refine lv_lconst (v := (lN 1)) hx hb dX7_alter_35 rfl ?_
        refine W.ldc2 (v := (9 : Int64)) hx hb hown (hts (.constantLong RX7 174 (9 : Int64)) (by decide +kernel)) rfl dX7_alter_36 ?_
        refine W.eq (g2 := F0 m 39 ls [.long (9 : Int64), .long (lN 1), .long ((x3).toInt64)]) rfl ?_
        obtain ⟨r39, hc39, hf⟩ := bd_e hf
        refine cl_z_ro (Wd := (wX7 G ad f)) (Wc := ([] : va_W)) [] rfl (va_runS (As := [.long ((x3).toInt64), .long (lN 1), .long (9 : Int64)]) (rest := []) hC (c_X7_in l G ((x3).toInt64) (lN 1) (9 : Int64) r39 hc39 _) (va_cwS 3 hts gX7_alter_X7_in rfl rfl rfl (by decide +kernel) ⟨Nat.le_of_ble_eq_true rfl, Nat.le_of_ble_eq_true rfl⟩) ⟨Pc0_blind, fun U hU hW => Pc0_at (Wd := ([] : va_W)) hE (hP.subm [] rfl) (hD.sub [] (by decide) rfl) hU hW⟩ rfl rfl hl.1 rfl (lv_room (Nat.le_of_ble_eq_true rfl)) dX7_alter_39 ⟨Nat.zero_le _, Nat.zero_le _⟩) hS hA hP hD (fun H locs hn39 hP hD hS => ?_)
        refine lv_if_eq (tgt := 49) hx hb dX7_alter_42 (by decide) (fun hc => ?_) (fun hc => ?_)
        · have hf := if_t hf hc
          exact hB49 f x1 x2 x3 _ hf hK _ _ _ hP hD hS (lv_sub hl [0, 1, 2, 3] rfl)
        · have hf := if_f hf hc
          refine lv_iconst (v := (nI 1)) hx hb dX7_alter_45 (ic_1) ?_
          refine lv_goto (tgt := 50) hx hb dX7_alter_46 (by decide) ?_
          exact hB50 f x1 x2 x3 (nI 1) _ hf hK _ _ _ hP hD hS (lv_sub hl [0, 1, 2, 3] rfl)
    · have hf := if_t hf hc
      refine lv_iload_n hx hb dX7_alter_21 rfl (lv_at hl 3 rfl) ?_
      obtain ⟨r22, hc22, hf⟩ := bd_e hf
      refine cl_z_ro (Wd := (wX7 G ad f)) (Wc := ([] : va_W)) [] rfl (va_runS (As := [.int x3]) (rest := []) hC (c_X7_isOwner l G x3 r22 hc22 _) (va_cwS 1 hts gX7_alter_X7_isOwner rfl rfl rfl (by decide +kernel) ⟨Nat.le_of_ble_eq_true rfl, Nat.le_of_ble_eq_true rfl⟩) ⟨Pc0_blind, fun U hU hW => Pc0_at (Wd := ([] : va_W)) hE (hP.subm [] rfl) (hD.sub [] (by decide) rfl) hU hW⟩ rfl rfl hl.1 rfl (lv_room (Nat.le_of_ble_eq_true rfl)) dX7_alter_22 ⟨Nat.zero_le _, Nat.zero_le _⟩) hS hA hP hD (fun H locs hn22 hP hD hS => ?_)
      refine lv_goto (tgt := 50) hx hb dX7_alter_25 (by decide) ?_
      exact hB50 f x1 x2 x3 r22 _ hf hK _ _ _ hP hD hS (lv_sub hl [0, 1, 2, 3] rfl)
  · have hf := if_t hf hc
    refine lv_iload_n hx hb dX7_alter_4 rfl (lv_at hl 3 rfl) ?_
    refine lv_i2l (v := ((x3).toInt64)) hx hb dX7_alter_5 rfl ?_
    refine lv_lconst (v := (lN 0)) hx hb dX7_alter_6 rfl ?_
    refine W.ldc2 (v := (3 : Int64)) hx hb hown (hts (.constantLong RX7 169 (3 : Int64)) (by decide +kernel)) rfl dX7_alter_7 ?_
    refine W.eq (g2 := F0 m 10 ls [.long (3 : Int64), .long (lN 0), .long ((x3).toInt64)]) rfl ?_
    obtain ⟨r10, hc10, hf⟩ := bd_e hf
    refine cl_z_ro (Wd := (wX7 G ad f)) (Wc := ([] : va_W)) [] rfl (va_runS (As := [.long ((x3).toInt64), .long (lN 0), .long (3 : Int64)]) (rest := []) hC (c_X7_in l G ((x3).toInt64) (lN 0) (3 : Int64) r10 hc10 _) (va_cwS 3 hts gX7_alter_X7_in rfl rfl rfl (by decide +kernel) ⟨Nat.le_of_ble_eq_true rfl, Nat.le_of_ble_eq_true rfl⟩) ⟨Pc0_blind, fun U hU hW => Pc0_at (Wd := ([] : va_W)) hE (hP.subm [] rfl) (hD.sub [] (by decide) rfl) hU hW⟩ rfl rfl hl.1 rfl (lv_room (Nat.le_of_ble_eq_true rfl)) dX7_alter_10 ⟨Nat.zero_le _, Nat.zero_le _⟩) hS hA hP hD (fun H locs hn10 hP hD hS => ?_)
    refine lv_goto (tgt := 50) hx hb dX7_alter_13 (by decide) ?_
    exact hB50 f x1 x2 x3 r10 _ hf hK _ _ _ hP hD hS (lv_sub hl [0, 1, 2, 3] rfl)
noncomputable def p_X7_purse_B25 (f : Mem) (x1 : Int32) (x2 : Int32) (s0 : Int32) : Option (Int32 × Mem) :=
  Option.bind (p_X7_puts f s0 ((nI 9) + x1) x2 (nI 20)) <| fun (r32, f_32) =>
  some (r32, f_32)
noncomputable def p_X7_purse_B24 (f : Mem) (x1 : Int32) (x2 : Int32) : Option (Int32 × Mem) :=
  p_X7_purse_B25 f x1 x2 (nI 0)
noncomputable def p_X7_purse (f : Mem) (x1 : Int32) (x2 : Int32) : Option (Int32 × Mem) :=
  Option.bind (p_X7_isOwner x1) <| fun r2 =>
  if r2 = 0 then
    (p_X7_purse_B24 f x1 x2)
  else
    (Option.bind (p_X7_in ((x2).toInt64) (lN 0) (999 : Int64)) <| fun r14 =>
     if r14 = 0 then
       (p_X7_purse_B24 f x1 x2)
     else
       (p_X7_purse_B25 f x1 x2 (nI 1)))
set_option maxHeartbeats 4000000 in
set_option maxRecDepth 100000 in
theorem c_X7_purse (l : Launch) (G : Gt) (ad : Nat → Nat) (f : Mem) (x1 : Int32) (x2 : Int32) (r : Int32) (fz : Mem) (hf : p_X7_purse f x1 x2 = some (r, fz)) (sz : Nat) : Met l yX7_purse wsX7_purse ({ frames := 3, cells := 0, slots := 0, locals := 57 }) (Pc0 G sz [.ref (ad 0), .int x1, .int x2] (wX7 G ad f)) (Qi0 G (va_A (wX7 G ad f) sz) r (wX7 G ad fz)) 0 0 (va_A (wX7 G ad f) sz) := by
  refine metP (Qf := fun A => Qi0 G A r (wX7 G ad fz)) cX7_purse 3 (some .int) (by decide) rfl (Nat.le_of_ble_eq_true rfl) ?_
  intro p e s m below meth c A ls hC hr hlocks hin hE hA hsz hP hD hS hl
  generalize hargs : ([.ref (ad 0), .int x1, .int x2] : List Value).toArray = args at hC ⊢
  obtain ⟨hx, hb, hml, hown, hts⟩ := id hC
  have hT : va_K G.1 vwCl (tyL G) s := hE.1
  have hRet : ∀ (r9 : Int32) (f9 : Mem) (H : Heap) (locs : List Loc) (ls : Array Slot) (pc : Nat) (hK9 : (r9, f9) = (r, fz)) (hdg : decode cX7_purse pc = .ok (.ireturn, 1)), va_P G.1 vwCl (wX7 G ad f9) H → va_D A (wX7 G ad f9) → va_S A s.heap H locs → W p l e ({ frames := 3, cells := 0, slots := 0, locals := 57 }) s m args below meth c H locs 0 0 (MQ below (Qi0 G A r (wX7 G ad fz)) args s 0 0 A) (F0 m pc ls [.int r9]) := by
    intro r9 f9 H locs ls pc hK9 hdg hP hD hS
    cases hK9
    exact W.iret hx hb hr (fun t ht hW => ⟨⟨r, (), rfl, rfl, by rw [ht]; exact hP, hD⟩, hS.F ht⟩) hS.2.2 hdg hlocks
  generalize MQ below (Qi0 G A r (wX7 G ad fz)) args s 0 0 A = Q at hRet ⊢
  have hl : lv_has ls 3 [(0, .ref (ad 0)), (1, .int x1), (2, .int x2)] := hl
  have hK0 : (r, fz) = (r, fz) := rfl
  have hB25 : ∀ (f : Mem) (x1 : Int32) (x2 : Int32) (s0 : Int32) (res : Int32 × Mem) (hf : p_X7_purse_B25 f x1 x2 s0 = some res) (hK : res = (r, fz)), ∀ (H : Heap) (locs : List Loc) (ls : Array Slot), va_P G.1 vwCl (wX7 G ad f) H → va_D A (wX7 G ad f) → va_S A s.heap H locs → lv_has ls 3 [(1, .int x1), (2, .int x2)] → W p l e ({ frames := 3, cells := 0, slots := 0, locals := 57 }) s m args below meth c H locs 0 0 Q (F0 m 25 ls [.int s0, .ref (ad 0)]) := by
    intro f x1 x2 s0 res hf hK H locs ls hP hD hS hl
    unfold p_X7_purse_B25 at hf
    refine lv_bipush (v := (nI 9)) hx hb dX7_purse_25 (bi_9) ?_
    refine lv_iload_n hx hb dX7_purse_27 rfl (lv_at hl 0 rfl) ?_
    refine lv_iadd hx hb dX7_purse_28 ?_
    refine lv_iload_n hx hb dX7_purse_29 rfl (lv_at hl 1 rfl) ?_
    refine lv_bipush (v := (nI 20)) hx hb dX7_purse_30 (bi_20) ?_
    obtain ⟨⟨r32, f_32⟩, hc32, hf⟩ := bd_e hf
    try dsimp only at hf
    refine cl_i_same (Wd := (wX7 G ad f)) (W' := (wX7 G ad f_32)) (va_runV (As := [.int s0, .int ((nI 9) + x1), .int x2, .int (nI 20)]) (rest := []) hC (c_X7_puts l G ad f s0 ((nI 9) + x1) x2 (nI 20) r32 f_32 hc32 _) (cwV 4 hts gX7_purse_X7_puts rfl rfl rfl (by decide +kernel) ⟨Nat.le_of_ble_eq_true rfl, Nat.le_of_ble_eq_true rfl⟩) ⟨Pc0_blind, va_recv hT hP (q0 := 0) (ci := 7) rfl rfl, fun U hU hW => Pc0_at hE hP hD hU hW⟩ rfl rfl hl.1 rfl (lv_room (Nat.le_of_ble_eq_true rfl)) dX7_purse_32 ⟨Nat.zero_le _, Nat.zero_le _⟩) hS hA hD (fun H locs hP hD hS => ?_)
    have hK9 := K0_of hf hK
    exact hRet r32 f_32 _ _ _ _ hK9 dX7_purse_35 hP hD hS
  have hB24 : ∀ (f : Mem) (x1 : Int32) (x2 : Int32) (res : Int32 × Mem) (hf : p_X7_purse_B24 f x1 x2 = some res) (hK : res = (r, fz)), ∀ (H : Heap) (locs : List Loc) (ls : Array Slot), va_P G.1 vwCl (wX7 G ad f) H → va_D A (wX7 G ad f) → va_S A s.heap H locs → lv_has ls 3 [(1, .int x1), (2, .int x2)] → W p l e ({ frames := 3, cells := 0, slots := 0, locals := 57 }) s m args below meth c H locs 0 0 Q (F0 m 24 ls [.ref (ad 0)]) := by
    intro f x1 x2 res hf hK H locs ls hP hD hS hl
    unfold p_X7_purse_B24 at hf
    refine lv_iconst (v := (nI 0)) hx hb dX7_purse_24 (ic_0) ?_
    exact hB25 f x1 x2 (nI 0) _ hf hK _ _ _ hP hD hS (lv_sub hl [0, 1] rfl)
  obtain ⟨res, hres, hK⟩ : ∃ res, p_X7_purse f x1 x2 = some res ∧ res = (r, fz) := ⟨_, hf, rfl⟩
  clear hf
  have hf := hres
  clear hres
  unfold p_X7_purse at hf
  refine lv_aload_n hx hb dX7_purse_0 rfl (lv_at hl 0 rfl) ?_
  refine lv_iload_n hx hb dX7_purse_1 rfl (lv_at hl 1 rfl) ?_
  obtain ⟨r2, hc2, hf⟩ := bd_e hf
  refine cl_z_ro (Wd := (wX7 G ad f)) (Wc := ([] : va_W)) [] rfl (va_runS (As := [.int x1]) (rest := [.ref (ad 0)]) hC (c_X7_isOwner l G x1 r2 hc2 _) (va_cwS 1 hts gX7_purse_X7_isOwner rfl rfl rfl (by decide +kernel) ⟨Nat.le_of_ble_eq_true rfl, Nat.le_of_ble_eq_true rfl⟩) ⟨Pc0_blind, fun U hU hW => Pc0_at (Wd := ([] : va_W)) hE (hP.subm [] rfl) (hD.sub [] (by decide) rfl) hU hW⟩ rfl rfl hl.1 rfl (lv_room (Nat.le_of_ble_eq_true rfl)) dX7_purse_2 ⟨Nat.zero_le _, Nat.zero_le _⟩) hS hA hP hD (fun H locs hn2 hP hD hS => ?_)
  refine lv_if_eq (tgt := 24) hx hb dX7_purse_5 (by decide) (fun hc => ?_) (fun hc => ?_)
  · have hf := if_t hf hc
    exact hB24 f x1 x2 _ hf hK _ _ _ hP hD hS (lv_sub hl [1, 2] rfl)
  · have hf := if_f hf hc
    refine lv_iload_n hx hb dX7_purse_8 rfl (lv_at hl 2 rfl) ?_
    refine lv_i2l (v := ((x2).toInt64)) hx hb dX7_purse_9 rfl ?_
    refine lv_lconst (v := (lN 0)) hx hb dX7_purse_10 rfl ?_
    refine W.ldc2 (v := (999 : Int64)) hx hb hown (hts (.constantLong RX7 180 (999 : Int64)) (by decide +kernel)) rfl dX7_purse_11 ?_
    refine W.eq (g2 := F0 m 14 ls [.long (999 : Int64), .long (lN 0), .long ((x2).toInt64), .ref (ad 0)]) rfl ?_
    obtain ⟨r14, hc14, hf⟩ := bd_e hf
    refine cl_z_ro (Wd := (wX7 G ad f)) (Wc := ([] : va_W)) [] rfl (va_runS (As := [.long ((x2).toInt64), .long (lN 0), .long (999 : Int64)]) (rest := [.ref (ad 0)]) hC (c_X7_in l G ((x2).toInt64) (lN 0) (999 : Int64) r14 hc14 _) (va_cwS 3 hts gX7_purse_X7_in rfl rfl rfl (by decide +kernel) ⟨Nat.le_of_ble_eq_true rfl, Nat.le_of_ble_eq_true rfl⟩) ⟨Pc0_blind, fun U hU hW => Pc0_at (Wd := ([] : va_W)) hE (hP.subm [] rfl) (hD.sub [] (by decide) rfl) hU hW⟩ rfl rfl hl.1 rfl (lv_room (Nat.le_of_ble_eq_true rfl)) dX7_purse_14 ⟨Nat.zero_le _, Nat.zero_le _⟩) hS hA hP hD (fun H locs hn14 hP hD hS => ?_)
    refine lv_if_eq (tgt := 24) hx hb dX7_purse_17 (by decide) (fun hc => ?_) (fun hc => ?_)
    · have hf := if_t hf hc
      exact hB24 f x1 x2 _ hf hK _ _ _ hP hD hS (lv_sub hl [1, 2] rfl)
    · have hf := if_f hf hc
      refine lv_iconst (v := (nI 1)) hx hb dX7_purse_20 (ic_1) ?_
      refine lv_goto (tgt := 25) hx hb dX7_purse_21 (by decide) ?_
      exact hB25 f x1 x2 (nI 1) _ hf hK _ _ _ hP hD hS (lv_sub hl [1, 2] rfl)
