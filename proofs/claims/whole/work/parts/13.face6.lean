noncomputable def p_X6_drift_L58 (f : Mem) (fnow : Mem) (x2 : Int32) (x3 : Int32) (z : Int32 × Int32 × Int32 × Int32 × Mem) : Option ((Int32 × Int32 × Int32 × Int32 × Mem) ⊕ (Int32 × Int32 × Mem)) :=
  match z with
  | (x4, x5, x6, x7, ftrial_) =>
    if x2 ≤ x7 then
      (some (Sum.inr (x5, x6, ftrial_)))
    else
      (Option.bind (p_X0_tryDrawn ftrial_ (((((x4 * (1103515245 : Int32)) + (nI 12345)).toUInt32 >>> ((nI 16).toUInt32 &&& Int32.toUInt32 31)).toInt32) &&& (nI 32767))) <| fun (r89, ftrial_89) =>
       if r89 = 0 then
         (Option.bind (p_X0_passWeek ftrial_89) <| fun (r107, ftrial_107) =>
          some (Sum.inl (((x4 * (1103515245 : Int32)) + (nI 12345)), (x5 + r107), x6, (x7 + nI 1), ftrial_107)))
       else
         (some (Sum.inl (((x4 * (1103515245 : Int32)) + (nI 12345)), x5, (x6 + nI 1), (x7 + nI 1), ftrial_89))))
noncomputable def p_X6_drift (f : Mem) (fnow : Mem) (ftrial : Mem) (x1 : Int32) (x2 : Int32) (x3 : Int32) : Option (Int32 × Mem) :=
  Option.bind (p_X6_isWithin x2 (nI 1) (nI 60)) <| fun r4 =>
  if r4 = 0 then
    (some ((-1 : Int32), ftrial))
  else
    (Option.bind (p_X6_isWithin x3 (nI 0) (nI 1)) <| fun r13 =>
     if r13 = 0 then
       (some ((-1 : Int32), ftrial))
     else
       (if (nI 1) ≤ (fnow 0 0) then
          (Option.bind (p_X0_copyFrom ftrial fnow) <| fun ftrial_43 =>
           Option.bind (lp (p_X6_drift_L58 f fnow x2 x3) (x1, (nI 0), (nI 0), (nI 0), ftrial_43)) <| fun (y5_58, y6_58, ftrial_58) =>
           if x3 = 0 then
             (some (y5_58, ftrial_58))
           else
             (some (y6_58, ftrial_58)))
        else
          (some ((-2 : Int32), ftrial))))
set_option maxHeartbeats 4000000 in
set_option maxRecDepth 100000 in
theorem c_X6_drift (l : Launch) (G : Gt) (ad : Nat → Nat) (ado : Nat → Nat → Nat) (f : Mem) (fnow : Mem) (ftrial : Mem) (x1 : Int32) (x2 : Int32) (x3 : Int32) (r : Int32) (ftrialz : Mem) (hf : p_X6_drift f fnow ftrial x1 x2 x3 = some (r, ftrialz)) (sz : Nat) : Met l yX6_drift wsX6_drift ({ frames := 6, cells := 0, slots := 0, locals := 128 }) (Pc0 G sz [.ref (ad 0), .int x1, .int x2, .int x3] (wX6 G ad ado f ++ (wX0 G (ado 1) fnow ++ (wX0 G (ado 2) ftrial)))) (Qi0 G (va_A (wX6 G ad ado f ++ (wX0 G (ado 1) fnow ++ (wX0 G (ado 2) ftrial))) sz) r (wX6 G ad ado f ++ (wX0 G (ado 1) fnow ++ (wX0 G (ado 2) ftrialz)))) 0 0 (va_A (wX6 G ad ado f ++ (wX0 G (ado 1) fnow ++ (wX0 G (ado 2) ftrial))) sz) := by
  refine metP (Qf := fun A => Qi0 G A r (wX6 G ad ado f ++ (wX0 G (ado 1) fnow ++ (wX0 G (ado 2) ftrialz)))) cX6_drift 8 (some .int) (by decide) rfl (Nat.le_of_ble_eq_true rfl) ?_
  intro p e s m below meth c A ls hC hr hlocks hin hE hA hsz hP hD hS hl
  generalize hargs : ([.ref (ad 0), .int x1, .int x2, .int x3] : List Value).toArray = args at hC ⊢
  obtain ⟨hx, hb, hml, hown, hts⟩ := id hC
  have hT : va_K G.1 vwCl (tyL G) s := hE.1
  have hRet : ∀ (r9 : Int32) (ftrial9 : Mem) (H : Heap) (locs : List Loc) (ls : Array Slot) (pc : Nat) (hK9 : (r9, ftrial9) = (r, ftrialz)) (hdg : decode cX6_drift pc = .ok (.ireturn, 1)), va_P G.1 vwCl (wX6 G ad ado f ++ (wX0 G (ado 1) fnow ++ (wX0 G (ado 2) ftrial9))) H → va_D A (wX6 G ad ado f ++ (wX0 G (ado 1) fnow ++ (wX0 G (ado 2) ftrial9))) → va_S A s.heap H locs → W p l e ({ frames := 6, cells := 0, slots := 0, locals := 128 }) s m args below meth c H locs 0 0 (MQ below (Qi0 G A r (wX6 G ad ado f ++ (wX0 G (ado 1) fnow ++ (wX0 G (ado 2) ftrialz)))) args s 0 0 A) (F0 m pc ls [.int r9]) := by
    intro r9 ftrial9 H locs ls pc hK9 hdg hP hD hS
    cases hK9
    exact W.iret hx hb hr (fun t ht hW => ⟨⟨r, (), rfl, rfl, by rw [ht]; exact hP, hD⟩, hS.F ht⟩) hS.2.2 hdg hlocks
  generalize MQ below (Qi0 G A r (wX6 G ad ado f ++ (wX0 G (ado 1) fnow ++ (wX0 G (ado 2) ftrialz)))) args s 0 0 A = Q at hRet ⊢
  have lk12 := hts (.fieldLink RX6 12 "FeatherShares" "now" "LFeatherShares$Flock;") (by decide +kernel)
  have inX6 : ∀ w ∈ u_ws RX6 TX6 11, w ∈ wsX6_drift := by decide +kernel
  have lk103 := va_Nw.use (A := args) rfl (hE.2.1 (RX6, 103, "FeatherShares$Flock", "geese", "I", "FeatherShares") (List.mem_of_getElem? (i := 6) rfl))
  have inX0 : ∀ w ∈ u_ws RX0 TX0 13, w ∈ wsX6_drift := by decide +kernel
  have lk16 := hts (.fieldLink RX6 16 "FeatherShares" "trial" "LFeatherShares$Flock;") (by decide +kernel)
  have hl : lv_has ls 8 [(0, .ref (ad 0)), (1, .int x1), (2, .int x2), (3, .int x3)] := hl
  have hK0 : (r, ftrialz) = (r, ftrialz) := rfl
  obtain ⟨res, hres, hK⟩ : ∃ res, p_X6_drift f fnow ftrial x1 x2 x3 = some res ∧ res = (r, ftrialz) := ⟨_, hf, rfl⟩
  clear hf
  have hf := hres
  clear hres
  unfold p_X6_drift at hf
  refine lv_iload_n hx hb dX6_drift_0 rfl (lv_at hl 2 rfl) ?_
  refine lv_iconst (v := (nI 1)) hx hb dX6_drift_1 (ic_1) ?_
  refine lv_bipush (v := (nI 60)) hx hb dX6_drift_2 (bi_60) ?_
  obtain ⟨r4, hc4, hf⟩ := bd_e hf
  refine cl_z_ro (Wd := (wX6 G ad ado f ++ (wX0 G (ado 1) fnow ++ (wX0 G (ado 2) ftrial)))) (Wc := ([] : va_W)) [] rfl (va_runS (As := [.int x2, .int (nI 1), .int (nI 60)]) (rest := []) hC (c_X6_isWithin l G x2 (nI 1) (nI 60) r4 hc4 _) (va_cwS 3 hts gX6_drift_X6_isWithin rfl rfl rfl (by decide +kernel) ⟨Nat.le_of_ble_eq_true rfl, Nat.le_of_ble_eq_true rfl⟩) ⟨Pc0_blind, fun U hU hW => Pc0_at (Wd := ([] : va_W)) hE (hP.subm [] rfl) (hD.sub [] (by decide) rfl) hU hW⟩ rfl rfl hl.1 rfl (lv_room (Nat.le_of_ble_eq_true rfl)) dX6_drift_4 ⟨Nat.zero_le _, Nat.zero_le _⟩) hS hA hP hD (fun H locs hn4 hP hD hS => ?_)
  refine lv_if_eq (tgt := 19) hx hb dX6_drift_7 (by decide) (fun hc => ?_) (fun hc => ?_)
  · have hf := if_t hf hc
    refine lv_iconst (v := (-1 : Int32)) hx hb dX6_drift_19 (ic_m1) ?_
    have hK9 := K0_of hf hK
    exact hRet (-1 : Int32) ftrial _ _ _ _ hK9 dX6_drift_20 hP hD hS
  · have hf := if_f hf hc
    refine lv_iload_n hx hb dX6_drift_10 rfl (lv_at hl 3 rfl) ?_
    refine lv_iconst (v := (nI 0)) hx hb dX6_drift_11 (ic_0) ?_
    refine lv_iconst (v := (nI 1)) hx hb dX6_drift_12 (ic_1) ?_
    obtain ⟨r13, hc13, hf⟩ := bd_e hf
    refine cl_z_ro (Wd := (wX6 G ad ado f ++ (wX0 G (ado 1) fnow ++ (wX0 G (ado 2) ftrial)))) (Wc := ([] : va_W)) [] rfl (va_runS (As := [.int x3, .int (nI 0), .int (nI 1)]) (rest := []) hC (c_X6_isWithin l G x3 (nI 0) (nI 1) r13 hc13 _) (va_cwS 3 hts gX6_drift_X6_isWithin rfl rfl rfl (by decide +kernel) ⟨Nat.le_of_ble_eq_true rfl, Nat.le_of_ble_eq_true rfl⟩) ⟨Pc0_blind, fun U hU hW => Pc0_at (Wd := ([] : va_W)) hE (hP.subm [] rfl) (hD.sub [] (by decide) rfl) hU hW⟩ rfl rfl hl.1 rfl (lv_room (Nat.le_of_ble_eq_true rfl)) dX6_drift_13 ⟨Nat.zero_le _, Nat.zero_le _⟩) hS hA hP hD (fun H locs hn13 hP hD hS => ?_)
    refine lv_if_ne (tgt := 21) hx hb dX6_drift_16 (by decide) (fun hc => ?_) (fun hc => ?_)
    · have hf := if_f hf hc
      refine lv_aload_n hx hb dX6_drift_21 rfl (lv_at hl 0 rfl) ?_
      refine va_get (C := RX6) (T := TX6) (N := 11) (ci := 6) (v := .ref ((ado 1) 0)) hx hb hts inX6 hown hT hP 0 rfl rfl 0 (Nat.le_of_ble_eq_true rfl) lk12 (fun _ h => h) rfl dX6_drift_22 ?_
      refine va_getN (C := RX0) (T := TX0) (N := 13) (ci := 0) (v := .int (fnow 0 0)) hx hb hts inX0 hown hT hP 4 rfl rfl 0 (Nat.le_of_ble_eq_true rfl) lk103 (fun _ h => h) rfl dX6_drift_25 ?_
      refine lv_iconst (v := (nI 1)) hx hb dX6_drift_28 (ic_1) ?_
      refine lv_icmp_ge (tgt := 35) hx hb dX6_drift_29 (by decide) (fun hc => ?_) (fun hc => ?_)
      · have hf := if_t hf hc
        refine lv_aload_n hx hb dX6_drift_35 rfl (lv_at hl 0 rfl) ?_
        refine va_get (C := RX6) (T := TX6) (N := 11) (ci := 6) (v := .ref ((ado 2) 0)) hx hb hts inX6 hown hT hP 0 rfl rfl 1 (Nat.le_of_ble_eq_true rfl) lk16 (fun _ h => h) rfl dX6_drift_36 ?_
        refine lv_aload_n hx hb dX6_drift_39 rfl (lv_at hl 0 rfl) ?_
        refine va_get (C := RX6) (T := TX6) (N := 11) (ci := 6) (v := .ref ((ado 1) 0)) hx hb hts inX6 hown hT hP 0 rfl rfl 0 (Nat.le_of_ble_eq_true rfl) lk12 (fun _ h => h) rfl dX6_drift_40 ?_
        obtain ⟨ftrial_43, hc43, hf⟩ := bd_e hf
        refine cl_v_up (Wd := (wX6 G ad ado f ++ (wX0 G (ado 1) fnow ++ (wX0 G (ado 2) ftrial)))) (Wc := (wX0 G (ado 2) ftrial ++ (wX0 G (ado 1) fnow))) (W' := (wX0 G (ado 2) ftrial_43 ++ (wX0 G (ado 1) fnow))) (W2 := (wX6 G ad ado f ++ (wX0 G (ado 1) fnow ++ (wX0 G (ado 2) ftrial_43)))) (Wr := (wX6 G ad ado f)) [15, 16, 17, 18, 19, 20, 21, 22, 23, 24, 25, 4, 5, 6, 7, 8, 9, 10, 11, 12, 13, 14] [0, 1, 2, 3] rfl rfl rfl rfl rfl rfl (va_runVN (As := [.ref ((ado 1) 0)]) (rest := []) hC (c_X0_copyFrom l G (ado 2) (ado 1) ftrial fnow ftrial_43 hc43 _) ⟨va_cnB 1 hts gX6_drift_X0_copyFrom_n93 rfl rfl rfl (hE.2.2 (RX6, 93, yX0_copyFrom, "FeatherShares") (List.mem_of_getElem? (i := 8) rfl)) (hts (.initialized RX0) (by decide +kernel)) (by decide +kernel) ⟨Nat.le_of_ble_eq_true rfl, Nat.le_of_ble_eq_true rfl⟩, hts (.instanceMethod yX0_copyFrom) (by decide +kernel), hts (.selects RX0 yX0_copyFrom yX0_copyFrom) (by decide +kernel)⟩ ⟨Pc0_blind, va_recv hT hP (q0 := 15) (ci := 0) rfl rfl, fun U hU hW => Pc0_at (Wd := (wX0 G (ado 2) ftrial ++ (wX0 G (ado 1) fnow))) hE (hP.subm [15, 16, 17, 18, 19, 20, 21, 22, 23, 24, 25, 4, 5, 6, 7, 8, 9, 10, 11, 12, 13, 14] rfl) (hD.sub [15, 16, 17, 18, 19, 20, 21, 22, 23, 24, 25, 4, 5, 6, 7, 8, 9, 10, 11, 12, 13, 14] (by decide) rfl) hU hW⟩ rfl rfl hl.1 rfl (lv_room (Nat.le_of_ble_eq_true rfl)) dX6_drift_43 ⟨Nat.zero_le _, Nat.zero_le _⟩) hS hA hP hD (fun H locs hP hD hS => ?_)
        refine lv_iload_n hx hb dX6_drift_46 rfl (lv_at hl 1 rfl) ?_
        refine lv_istore (lv' := [(4, .int x1), (0, .ref (ad 0)), (1, .int x1), (2, .int x2), (3, .int x3)]) hx hb dX6_drift_47 hl (by decide) rfl (fun ls hl => ?_)
        refine lv_iconst (v := (nI 0)) hx hb dX6_drift_49 (ic_0) ?_
        refine lv_istore (lv' := [(5, .int (nI 0)), (4, .int x1), (0, .ref (ad 0)), (1, .int x1), (2, .int x2), (3, .int x3)]) hx hb dX6_drift_50 hl (by decide) rfl (fun ls hl => ?_)
        refine lv_iconst (v := (nI 0)) hx hb dX6_drift_52 (ic_0) ?_
        refine lv_istore (lv' := [(6, .int (nI 0)), (5, .int (nI 0)), (4, .int x1), (0, .ref (ad 0)), (1, .int x1), (2, .int x2), (3, .int x3)]) hx hb dX6_drift_53 hl (by decide) rfl (fun ls hl => ?_)
        refine lv_iconst (v := (nI 0)) hx hb dX6_drift_55 (ic_0) ?_
        refine lv_istore (lv' := [(7, .int (nI 0)), (6, .int (nI 0)), (5, .int (nI 0)), (4, .int x1), (0, .ref (ad 0)), (1, .int x1), (2, .int x2), (3, .int x3)]) hx hb dX6_drift_56 hl (by decide) rfl (fun ls hl => ?_)
        obtain ⟨⟨y5_58, y6_58, ftrial_58⟩, hlp, hf⟩ := bd_e hf
        refine lp_W1 (p_X6_drift_L58 f fnow x2 x3) (fun z => match z with | (x4, x5, x6, x7, ftrial_) => ∀ (H : Heap) (locs : List Loc) (ls : Array Slot), va_P G.1 vwCl (wX6 G ad ado f ++ (wX0 G (ado 1) fnow ++ (wX0 G (ado 2) ftrial_))) H → va_D A (wX6 G ad ado f ++ (wX0 G (ado 1) fnow ++ (wX0 G (ado 2) ftrial_))) → va_S A s.heap H locs → lv_has ls 8 [(0, .ref (ad 0)), (2, .int x2), (3, .int x3), (4, .int x4), (5, .int x5), (6, .int x6), (7, .int x7)] → W p l e ({ frames := 6, cells := 0, slots := 0, locals := 128 }) s m args below meth c H locs 0 0 Q (F0 m 58 ls [])) (fun z => match z with | (y5_58, y6_58, ftrial_58) => ∀ (H : Heap) (locs : List Loc) (ls : Array Slot), va_P G.1 vwCl (wX6 G ad ado f ++ (wX0 G (ado 1) fnow ++ (wX0 G (ado 2) ftrial_58))) H → va_D A (wX6 G ad ado f ++ (wX0 G (ado 1) fnow ++ (wX0 G (ado 2) ftrial_58))) → va_S A s.heap H locs → lv_has ls 8 [(3, .int x3), (5, .int y5_58), (6, .int y6_58)] → W p l e ({ frames := 6, cells := 0, slots := 0, locals := 128 }) s m args below meth c H locs 0 0 Q (F0 m 119 ls [])) ?_ hlp ?_ _ _ _ hP hD hS (lv_sub hl [4, 6, 7, 3, 2, 1, 0] rfl)
        · clear hlp hf hK hP hD hS hl
          intro K58 hW58 hX58 
          rintro ⟨x4, x5, x6, x7, ftrial_⟩ res hf hK H locs ls hP hD hS hl
          unfold p_X6_drift_L58 at hf
          dsimp only at hf
          refine lv_iload hx hb dX6_drift_58 (lv_at hl 6 rfl) ?_
          refine lv_iload_n hx hb dX6_drift_60 rfl (lv_at hl 1 rfl) ?_
          refine lv_icmp_ge (tgt := 119) hx hb dX6_drift_61 (by decide) (fun hc => ?_) (fun hc => ?_)
          · have hf := if_t hf hc
            have hK9 := K_of hf hK
            have hK9 := hX58 _ hK9
            exact hK9 _ _ _ hP hD hS (lv_sub hl [2, 4, 5] rfl)
          · have hf := if_f hf hc
            refine lv_iload hx hb dX6_drift_64 (lv_at hl 3 rfl) ?_
            refine lv_ldcw (v := (1103515245 : Int32)) hx hb hown (hts (.constant RX6 286 (1103515245 : Int32)) (by decide +kernel)) dX6_drift_66 ?_
            refine lv_imul hx hb dX6_drift_69 ?_
            refine lv_sipush (v := (nI 12345)) hx hb dX6_drift_70 (si_12345) ?_
            refine lv_iadd hx hb dX6_drift_73 ?_
            refine lv_istore (lv' := [(4, .int ((x4 * (1103515245 : Int32)) + (nI 12345))), (0, .ref (ad 0)), (2, .int x2), (3, .int x3), (5, .int x5), (6, .int x6), (7, .int x7)]) hx hb dX6_drift_74 hl (by decide) rfl (fun ls hl => ?_)
            refine lv_aload_n hx hb dX6_drift_76 rfl (lv_at hl 1 rfl) ?_
            refine va_get (C := RX6) (T := TX6) (N := 11) (ci := 6) (v := .ref ((ado 2) 0)) hx hb hts inX6 hown hT hP 0 rfl rfl 1 (Nat.le_of_ble_eq_true rfl) lk16 (fun _ h => h) rfl dX6_drift_77 ?_
            refine lv_iload hx hb dX6_drift_80 (lv_at hl 0 rfl) ?_
            refine lv_bipush (v := (nI 16)) hx hb dX6_drift_82 (bi_16) ?_
            refine lv_iushr (v := ((((x4 * (1103515245 : Int32)) + (nI 12345)).toUInt32 >>> ((nI 16).toUInt32 &&& Int32.toUInt32 31)).toInt32)) hx hb dX6_drift_84 rfl ?_
            refine lv_sipush (v := (nI 32767)) hx hb dX6_drift_85 (si_32767) ?_
            refine lv_iand hx hb dX6_drift_88 ?_
            obtain ⟨⟨r89, ftrial_89⟩, hc89, hf⟩ := bd_e hf
            try dsimp only at hf
            refine cl_z_up (Wd := (wX6 G ad ado f ++ (wX0 G (ado 1) fnow ++ (wX0 G (ado 2) ftrial_)))) (Wc := (wX0 G (ado 2) ftrial_)) (W' := (wX0 G (ado 2) ftrial_89)) (W2 := (wX6 G ad ado f ++ (wX0 G (ado 1) fnow ++ (wX0 G (ado 2) ftrial_89)))) (Wr := (wX6 G ad ado f ++ (wX0 G (ado 1) fnow))) [15, 16, 17, 18, 19, 20, 21, 22, 23, 24, 25] [0, 1, 2, 3, 4, 5, 6, 7, 8, 9, 10, 11, 12, 13, 14] rfl rfl rfl rfl rfl rfl (va_runVN (As := [.int (((((x4 * (1103515245 : Int32)) + (nI 12345)).toUInt32 >>> ((nI 16).toUInt32 &&& Int32.toUInt32 31)).toInt32) &&& (nI 32767))]) (rest := []) hC (c_X0_tryDrawn l G (ado 2) ftrial_ (((((x4 * (1103515245 : Int32)) + (nI 12345)).toUInt32 >>> ((nI 16).toUInt32 &&& Int32.toUInt32 31)).toInt32) &&& (nI 32767)) r89 ftrial_89 hc89 _) ⟨va_cnB 1 hts gX6_drift_X0_tryDrawn_n287 rfl rfl rfl (hE.2.2 (RX6, 287, yX0_tryDrawn, "FeatherShares") (List.mem_of_getElem? (i := 32) rfl)) (hts (.initialized RX0) (by decide +kernel)) (by decide +kernel) ⟨Nat.le_of_ble_eq_true rfl, Nat.le_of_ble_eq_true rfl⟩, hts (.instanceMethod yX0_tryDrawn) (by decide +kernel), hts (.selects RX0 yX0_tryDrawn yX0_tryDrawn) (by decide +kernel)⟩ ⟨Pc0_blind, va_recv hT hP (q0 := 15) (ci := 0) rfl rfl, fun U hU hW => Pc0_at (Wd := (wX0 G (ado 2) ftrial_)) hE (hP.subm [15, 16, 17, 18, 19, 20, 21, 22, 23, 24, 25] rfl) (hD.sub [15, 16, 17, 18, 19, 20, 21, 22, 23, 24, 25] (by decide) rfl) hU hW⟩ rfl rfl hl.1 rfl (lv_room (Nat.le_of_ble_eq_true rfl)) dX6_drift_89 ⟨Nat.zero_le _, Nat.zero_le _⟩) hS hA hP hD (fun H locs hn89 hP hD hS => ?_)
            refine lv_if_eq (tgt := 101) hx hb dX6_drift_92 (by decide) (fun hc => ?_) (fun hc => ?_)
            · have hf := if_t hf hc
              refine lv_iload hx hb dX6_drift_101 (lv_at hl 4 rfl) ?_
              refine lv_aload_n hx hb dX6_drift_103 rfl (lv_at hl 1 rfl) ?_
              refine va_get (C := RX6) (T := TX6) (N := 11) (ci := 6) (v := .ref ((ado 2) 0)) hx hb hts inX6 hown hT hP 0 rfl rfl 1 (Nat.le_of_ble_eq_true rfl) lk16 (fun _ h => h) rfl dX6_drift_104 ?_
              obtain ⟨⟨r107, ftrial_107⟩, hc107, hf⟩ := bd_e hf
              try dsimp only at hf
              refine cl_i_up (Wd := (wX6 G ad ado f ++ (wX0 G (ado 1) fnow ++ (wX0 G (ado 2) ftrial_89)))) (Wc := (wX0 G (ado 2) ftrial_89)) (W' := (wX0 G (ado 2) ftrial_107)) (W2 := (wX6 G ad ado f ++ (wX0 G (ado 1) fnow ++ (wX0 G (ado 2) ftrial_107)))) (Wr := (wX6 G ad ado f ++ (wX0 G (ado 1) fnow))) [15, 16, 17, 18, 19, 20, 21, 22, 23, 24, 25] [0, 1, 2, 3, 4, 5, 6, 7, 8, 9, 10, 11, 12, 13, 14] rfl rfl rfl rfl rfl rfl (va_runVN (As := []) (rest := [.int x5]) hC (c_X0_passWeek l G (ado 2) ftrial_89 r107 ftrial_107 hc107 _) ⟨va_cnB 0 hts gX6_drift_X0_passWeek_n207 rfl rfl rfl (hE.2.2 (RX6, 207, yX0_passWeek, "FeatherShares") (List.mem_of_getElem? (i := 25) rfl)) (hts (.initialized RX0) (by decide +kernel)) (by decide +kernel) ⟨Nat.le_of_ble_eq_true rfl, Nat.le_of_ble_eq_true rfl⟩, hts (.instanceMethod yX0_passWeek) (by decide +kernel), hts (.selects RX0 yX0_passWeek yX0_passWeek) (by decide +kernel)⟩ ⟨Pc0_blind, va_recv hT hP (q0 := 15) (ci := 0) rfl rfl, fun U hU hW => Pc0_at (Wd := (wX0 G (ado 2) ftrial_89)) hE (hP.subm [15, 16, 17, 18, 19, 20, 21, 22, 23, 24, 25] rfl) (hD.sub [15, 16, 17, 18, 19, 20, 21, 22, 23, 24, 25] (by decide) rfl) hU hW⟩ rfl rfl hl.1 rfl (lv_room (Nat.le_of_ble_eq_true rfl)) dX6_drift_107 ⟨Nat.zero_le _, Nat.zero_le _⟩) hS hA hP hD (fun H locs hP hD hS => ?_)
              refine lv_iadd hx hb dX6_drift_110 ?_
              refine lv_istore (lv' := [(5, .int (x5 + r107)), (4, .int ((x4 * (1103515245 : Int32)) + (nI 12345))), (0, .ref (ad 0)), (2, .int x2), (3, .int x3), (6, .int x6), (7, .int x7)]) hx hb dX6_drift_111 hl (by decide) rfl (fun ls hl => ?_)
              refine lv_iinc (v := (x7 + nI 1)) (lv' := [(7, .int (x7 + nI 1)), (5, .int (x5 + r107)), (4, .int ((x4 * (1103515245 : Int32)) + (nI 12345))), (0, .ref (ad 0)), (2, .int x2), (3, .int x3), (6, .int x6)]) hx hb dX6_drift_113 hl (k := 6) rfl (ii_x 1 _) (by decide) rfl (fun ls hl => ?_)
              refine lv_goto (tgt := 58) hx hb dX6_drift_116 (by decide) ?_
              have hK9 := K_of hf hK
              have hK9 := hW58 _ hK9
              exact hK9 _ _ _ hP hD hS (lv_sub hl [3, 4, 5, 2, 1, 6, 0] rfl)
            · have hf := if_f hf hc
              refine lv_iinc (v := (x6 + nI 1)) (lv' := [(6, .int (x6 + nI 1)), (4, .int ((x4 * (1103515245 : Int32)) + (nI 12345))), (0, .ref (ad 0)), (2, .int x2), (3, .int x3), (5, .int x5), (7, .int x7)]) hx hb dX6_drift_95 hl (k := 5) rfl (ii_x 1 _) (by decide) rfl (fun ls hl => ?_)
              refine lv_goto (tgt := 113) hx hb dX6_drift_98 (by decide) ?_
              refine lv_iinc (v := (x7 + nI 1)) (lv' := [(7, .int (x7 + nI 1)), (6, .int (x6 + nI 1)), (4, .int ((x4 * (1103515245 : Int32)) + (nI 12345))), (0, .ref (ad 0)), (2, .int x2), (3, .int x3), (5, .int x5)]) hx hb dX6_drift_113 hl (k := 6) rfl (ii_x 1 _) (by decide) rfl (fun ls hl => ?_)
              refine lv_goto (tgt := 58) hx hb dX6_drift_116 (by decide) ?_
              have hK9 := K_of hf hK
              have hK9 := hW58 _ hK9
              exact hK9 _ _ _ hP hD hS (lv_sub hl [3, 4, 5, 2, 6, 1, 0] rfl)
        · try dsimp only at hf
          show ∀ (H : Heap) (locs : List Loc) (ls : Array Slot), va_P G.1 vwCl (wX6 G ad ado f ++ (wX0 G (ado 1) fnow ++ (wX0 G (ado 2) ftrial_58))) H → va_D A (wX6 G ad ado f ++ (wX0 G (ado 1) fnow ++ (wX0 G (ado 2) ftrial_58))) → va_S A s.heap H locs → lv_has ls 8 [(3, .int x3), (5, .int y5_58), (6, .int y6_58)] → W p l e ({ frames := 6, cells := 0, slots := 0, locals := 128 }) s m args below meth c H locs 0 0 Q (F0 m 119 ls [])
          intro H locs ls hP hD hS hl
          refine lv_iload_n hx hb dX6_drift_119 rfl (lv_at hl 0 rfl) ?_
          refine lv_if_ne (tgt := 128) hx hb dX6_drift_120 (by decide) (fun hc => ?_) (fun hc => ?_)
          · have hf := if_f hf hc
            refine lv_iload hx hb dX6_drift_128 (lv_at hl 2 rfl) ?_
            have hK9 := K0_of hf hK
            exact hRet y6_58 ftrial_58 _ _ _ _ hK9 dX6_drift_130 hP hD hS
          · have hf := if_t hf hc
            refine lv_iload hx hb dX6_drift_123 (lv_at hl 1 rfl) ?_
            refine lv_goto (tgt := 130) hx hb dX6_drift_125 (by decide) ?_
            have hK9 := K0_of hf hK
            exact hRet y5_58 ftrial_58 _ _ _ _ hK9 dX6_drift_130 hP hD hS
      · have hf := if_f hf hc
        refine lv_bipush (v := (-2 : Int32)) hx hb dX6_drift_32 (bi_m2) ?_
        have hK9 := K0_of hf hK
        exact hRet (-2 : Int32) ftrial _ _ _ _ hK9 dX6_drift_34 hP hD hS
    · have hf := if_t hf hc
      refine lv_iconst (v := (-1 : Int32)) hx hb dX6_drift_19 (ic_m1) ?_
      have hK9 := K0_of hf hK
      exact hRet (-1 : Int32) ftrial _ _ _ _ hK9 dX6_drift_20 hP hD hS
noncomputable def p_X6_keep (f : Mem) (fnow : Mem) (fimg0 : Mem) (fimg1 : Mem) (x1 : Int32) : Option (Int32 × Mem × Mem × Mem) :=
  Option.bind (p_X6_isWithin x1 (nI 0) (nI 1)) <| fun r3 =>
  if r3 = 0 then
    (some ((-1 : Int32), f, fimg0, fimg1))
  else
    (if x1 = nI 0 then
       (Option.bind (p_X0_copyFrom fimg0 fnow) <| fun fimg0_30 =>
       some ((((f 0 0) >>> (x1 &&& 31)) &&& (nI 1)), (mset 0 0 ((f 0 0) ||| ((nI 1) <<< (x1 &&& 31))) f), fimg0_30, fimg1))
     else if x1 = nI 1 then
       (Option.bind (p_X0_copyFrom fimg1 fnow) <| fun fimg1_30 =>
       some ((((f 0 0) >>> (x1 &&& 31)) &&& (nI 1)), (mset 0 0 ((f 0 0) ||| ((nI 1) <<< (x1 &&& 31))) f), fimg0, fimg1_30))
     else none)
set_option maxHeartbeats 4000000 in
set_option maxRecDepth 100000 in
theorem c_X6_keep (l : Launch) (G : Gt) (ad : Nat → Nat) (ado : Nat → Nat → Nat) (f : Mem) (fnow : Mem) (fimg0 : Mem) (fimg1 : Mem) (x1 : Int32) (r : Int32) (fz : Mem) (fimg0z : Mem) (fimg1z : Mem) (hf : p_X6_keep f fnow fimg0 fimg1 x1 = some (r, fz, fimg0z, fimg1z)) (sz : Nat) : Met l yX6_keep wsX6_keep ({ frames := 2, cells := 0, slots := 0, locals := 61 }) (Pc0 G sz [.ref (ad 0), .int x1] (wX6 G ad ado f ++ (wX0 G (ado 1) fnow ++ (wX0 G (ado 3) fimg0 ++ (wX0 G (ado 4) fimg1))))) (Qi0 G (va_A (wX6 G ad ado f ++ (wX0 G (ado 1) fnow ++ (wX0 G (ado 3) fimg0 ++ (wX0 G (ado 4) fimg1)))) sz) r (wX6 G ad ado fz ++ (wX0 G (ado 1) fnow ++ (wX0 G (ado 3) fimg0z ++ (wX0 G (ado 4) fimg1z))))) 0 0 (va_A (wX6 G ad ado f ++ (wX0 G (ado 1) fnow ++ (wX0 G (ado 3) fimg0 ++ (wX0 G (ado 4) fimg1)))) sz) := by
  refine metP (Qf := fun A => Qi0 G A r (wX6 G ad ado fz ++ (wX0 G (ado 1) fnow ++ (wX0 G (ado 3) fimg0z ++ (wX0 G (ado 4) fimg1z))))) cX6_keep 3 (some .int) (by decide) rfl (Nat.le_of_ble_eq_true rfl) ?_
  intro p e s m below meth c A ls hC hr hlocks hin hE hA hsz hP hD hS hl
  generalize hargs : ([.ref (ad 0), .int x1] : List Value).toArray = args at hC ⊢
  obtain ⟨hx, hb, hml, hown, hts⟩ := id hC
  have hT : va_K G.1 vwCl (tyL G) s := hE.1
  have hRet : ∀ (r9 : Int32) (f9 : Mem) (fimg09 : Mem) (fimg19 : Mem) (H : Heap) (locs : List Loc) (ls : Array Slot) (pc : Nat) (hK9 : (r9, f9, fimg09, fimg19) = (r, fz, fimg0z, fimg1z)) (hdg : decode cX6_keep pc = .ok (.ireturn, 1)), va_P G.1 vwCl (wX6 G ad ado f9 ++ (wX0 G (ado 1) fnow ++ (wX0 G (ado 3) fimg09 ++ (wX0 G (ado 4) fimg19)))) H → va_D A (wX6 G ad ado f9 ++ (wX0 G (ado 1) fnow ++ (wX0 G (ado 3) fimg09 ++ (wX0 G (ado 4) fimg19)))) → va_S A s.heap H locs → W p l e ({ frames := 2, cells := 0, slots := 0, locals := 61 }) s m args below meth c H locs 0 0 (MQ below (Qi0 G A r (wX6 G ad ado fz ++ (wX0 G (ado 1) fnow ++ (wX0 G (ado 3) fimg0z ++ (wX0 G (ado 4) fimg1z))))) args s 0 0 A) (F0 m pc ls [.int r9]) := by
    intro r9 f9 fimg09 fimg19 H locs ls pc hK9 hdg hP hD hS
    cases hK9
    exact W.iret hx hb hr (fun t ht hW => ⟨⟨r, (), rfl, rfl, by rw [ht]; exact hP, hD⟩, hS.F ht⟩) hS.2.2 hdg hlocks
  generalize MQ below (Qi0 G A r (wX6 G ad ado fz ++ (wX0 G (ado 1) fnow ++ (wX0 G (ado 3) fimg0z ++ (wX0 G (ado 4) fimg1z))))) args s 0 0 A = Q at hRet ⊢
  have lk23 := hts (.fieldLink RX6 23 "FeatherShares" "keptImages" "I") (by decide +kernel)
  have inX6 : ∀ w ∈ u_ws RX6 TX6 11, w ∈ wsX6_keep := by decide +kernel
  have lk19 := hts (.fieldLink RX6 19 "FeatherShares" "images" "[LFeatherShares$Flock;") (by decide +kernel)
  have lk12 := hts (.fieldLink RX6 12 "FeatherShares" "now" "LFeatherShares$Flock;") (by decide +kernel)
  have hl : lv_has ls 3 [(0, .ref (ad 0)), (1, .int x1)] := hl
  have hK0 : (r, fz, fimg0z, fimg1z) = (r, fz, fimg0z, fimg1z) := rfl
  obtain ⟨res, hres, hK⟩ : ∃ res, p_X6_keep f fnow fimg0 fimg1 x1 = some res ∧ res = (r, fz, fimg0z, fimg1z) := ⟨_, hf, rfl⟩
  clear hf
  have hf := hres
  clear hres
  unfold p_X6_keep at hf
  refine lv_iload_n hx hb dX6_keep_0 rfl (lv_at hl 1 rfl) ?_
  refine lv_iconst (v := (nI 0)) hx hb dX6_keep_1 (ic_0) ?_
  refine lv_iconst (v := (nI 1)) hx hb dX6_keep_2 (ic_1) ?_
  obtain ⟨r3, hc3, hf⟩ := bd_e hf
  refine cl_z_ro (Wd := (wX6 G ad ado f ++ (wX0 G (ado 1) fnow ++ (wX0 G (ado 3) fimg0 ++ (wX0 G (ado 4) fimg1))))) (Wc := ([] : va_W)) [] rfl (va_runS (As := [.int x1, .int (nI 0), .int (nI 1)]) (rest := []) hC (c_X6_isWithin l G x1 (nI 0) (nI 1) r3 hc3 _) (va_cwS 3 hts gX6_keep_X6_isWithin rfl rfl rfl (by decide +kernel) ⟨Nat.le_of_ble_eq_true rfl, Nat.le_of_ble_eq_true rfl⟩) ⟨Pc0_blind, fun U hU hW => Pc0_at (Wd := ([] : va_W)) hE (hP.subm [] rfl) (hD.sub [] (by decide) rfl) hU hW⟩ rfl rfl hl.1 rfl (lv_room (Nat.le_of_ble_eq_true rfl)) dX6_keep_3 ⟨Nat.zero_le _, Nat.zero_le _⟩) hS hA hP hD (fun H locs hn3 hP hD hS => ?_)
  refine lv_if_ne (tgt := 11) hx hb dX6_keep_6 (by decide) (fun hc => ?_) (fun hc => ?_)
  · have hf := if_f hf hc
    refine lv_aload_n hx hb dX6_keep_11 rfl (lv_at hl 0 rfl) ?_
    refine va_get (C := RX6) (T := TX6) (N := 11) (ci := 6) (v := .int (f 0 0)) hx hb hts inX6 hown hT hP 0 rfl rfl 3 (Nat.le_of_ble_eq_true rfl) lk23 (fun _ h => h) rfl dX6_keep_12 ?_
    refine lv_iload_n hx hb dX6_keep_15 rfl (lv_at hl 1 rfl) ?_
    refine lv_ishr hx hb dX6_keep_16 ?_
    refine lv_iconst (v := (nI 1)) hx hb dX6_keep_17 (ic_1) ?_
    refine lv_iand hx hb dX6_keep_18 ?_
    refine lv_istore_n (lv' := [(2, .int (((f 0 0) >>> (x1 &&& 31)) &&& (nI 1))), (0, .ref (ad 0)), (1, .int x1)]) hx hb dX6_keep_19 rfl hl (by decide) rfl (fun ls hl => ?_)
    refine lv_aload_n hx hb dX6_keep_20 rfl (lv_at hl 1 rfl) ?_
    refine va_get (C := RX6) (T := TX6) (N := 11) (ci := 6) (v := .ref (ad 1)) hx hb hts inX6 hown hT hP 0 rfl rfl 2 (Nat.le_of_ble_eq_true rfl) lk19 (fun _ h => h) rfl dX6_keep_21 ?_
    refine lv_iload_n hx hb dX6_keep_24 rfl (lv_at hl 2 rfl) ?_
    by_cases hc25 : x1 = nI 0
    · rw [if_pos hc25] at hf
      refine va_aldq hx hb hT hP 1 2 rfl rfl (by rw [hc25]; exact vp_in_nI (by decide) (by decide)) dX6_keep_25 ?_
      refine W.eq (g2 := F0 m 26 ls [.ref ((ado 3) 0)]) (by rw [hc25]; rfl) ?_
      refine lv_aload_n hx hb dX6_keep_26 rfl (lv_at hl 1 rfl) ?_
      refine va_get (C := RX6) (T := TX6) (N := 11) (ci := 6) (v := .ref ((ado 1) 0)) hx hb hts inX6 hown hT hP 0 rfl rfl 0 (Nat.le_of_ble_eq_true rfl) lk12 (fun _ h => h) rfl dX6_keep_27 ?_
      obtain ⟨fimg0_30, hc30, hf⟩ := bd_e hf
      refine cl_v_up (Wd := (wX6 G ad ado f ++ (wX0 G (ado 1) fnow ++ (wX0 G (ado 3) fimg0 ++ (wX0 G (ado 4) fimg1))))) (Wc := (wX0 G (ado 3) fimg0 ++ (wX0 G (ado 1) fnow))) (W' := (wX0 G (ado 3) fimg0_30 ++ (wX0 G (ado 1) fnow))) (W2 := (wX6 G ad ado f ++ (wX0 G (ado 1) fnow ++ (wX0 G (ado 3) fimg0_30 ++ (wX0 G (ado 4) fimg1))))) (Wr := (wX6 G ad ado f ++ (wX0 G (ado 4) fimg1))) [15, 16, 17, 18, 19, 20, 21, 22, 23, 24, 25, 4, 5, 6, 7, 8, 9, 10, 11, 12, 13, 14] [0, 1, 2, 3, 26, 27, 28, 29, 30, 31, 32, 33, 34, 35, 36] rfl rfl rfl rfl rfl rfl (va_runVN (As := [.ref ((ado 1) 0)]) (rest := []) hC (c_X0_copyFrom l G (ado 3) (ado 1) fimg0 fnow fimg0_30 hc30 _) ⟨va_cnB 1 hts gX6_keep_X0_copyFrom_n93 rfl rfl rfl (hE.2.2 (RX6, 93, yX0_copyFrom, "FeatherShares") (List.mem_of_getElem? (i := 8) rfl)) (hts (.initialized RX0) (by decide +kernel)) (by decide +kernel) ⟨Nat.le_of_ble_eq_true rfl, Nat.le_of_ble_eq_true rfl⟩, hts (.instanceMethod yX0_copyFrom) (by decide +kernel), hts (.selects RX0 yX0_copyFrom yX0_copyFrom) (by decide +kernel)⟩ ⟨Pc0_blind, va_recv hT hP (q0 := 15) (ci := 0) rfl rfl, fun U hU hW => Pc0_at (Wd := (wX0 G (ado 3) fimg0 ++ (wX0 G (ado 1) fnow))) hE (hP.subm [15, 16, 17, 18, 19, 20, 21, 22, 23, 24, 25, 4, 5, 6, 7, 8, 9, 10, 11, 12, 13, 14] rfl) (hD.sub [15, 16, 17, 18, 19, 20, 21, 22, 23, 24, 25, 4, 5, 6, 7, 8, 9, 10, 11, 12, 13, 14] (by decide) rfl) hU hW⟩ rfl rfl hl.1 rfl (lv_room (Nat.le_of_ble_eq_true rfl)) dX6_keep_30 ⟨Nat.zero_le _, Nat.zero_le _⟩) hS hA hP hD (fun H locs hP hD hS => ?_)
      refine lv_aload_n hx hb dX6_keep_33 rfl (lv_at hl 1 rfl) ?_
      refine lv_dup hx hb dX6_keep_34 rfl ?_
      refine va_get (C := RX6) (T := TX6) (N := 11) (ci := 6) (v := .int (f 0 0)) hx hb hts inX6 hown hT hP 0 rfl rfl 3 (Nat.le_of_ble_eq_true rfl) lk23 (fun _ h => h) rfl dX6_keep_35 ?_
      refine lv_iconst (v := (nI 1)) hx hb dX6_keep_38 (ic_1) ?_
      refine lv_iload_n hx hb dX6_keep_39 rfl (lv_at hl 2 rfl) ?_
      refine lv_ishl hx hb dX6_keep_40 ?_
      refine lv_ior hx hb dX6_keep_41 ?_
      refine va_put (C := RX6) (T := TX6) (N := 11) (ci := 6) (ty := .int) (v := .int ((f 0 0) ||| ((nI 1) <<< (x1 &&& 31)))) hx hb hts inX6 tyX6 tyX6_ok nmX6 hown hT hP hD hS 0 rfl rfl 3 (Nat.le_of_ble_eq_true rfl) lk23 (fun _ h => h) rfl (by decide +kernel) rfl rfl (Nat.le_of_ble_eq_true rfl) dX6_keep_42 (fun H locs hP hD hS => ?_)
      have hP : va_P G.1 vwCl (wX6 G ad ado (mset 0 0 ((f 0 0) ||| ((nI 1) <<< (x1 &&& 31))) f) ++ (wX0 G (ado 1) fnow ++ (wX0 G (ado 3) fimg0_30 ++ (wX0 G (ado 4) fimg1)))) H := hP
      have hD : va_D A (wX6 G ad ado (mset 0 0 ((f 0 0) ||| ((nI 1) <<< (x1 &&& 31))) f) ++ (wX0 G (ado 1) fnow ++ (wX0 G (ado 3) fimg0_30 ++ (wX0 G (ado 4) fimg1)))) := hD
      refine lv_iload_n hx hb dX6_keep_45 rfl (lv_at hl 0 rfl) ?_
      have hK9 := K0_of hf hK
      exact hRet (((f 0 0) >>> (x1 &&& 31)) &&& (nI 1)) (mset 0 0 ((f 0 0) ||| ((nI 1) <<< (x1 &&& 31))) f) fimg0_30 fimg1 _ _ _ _ hK9 dX6_keep_46 hP hD hS
    rw [if_neg hc25] at hf
    by_cases hc25 : x1 = nI 1
    · rw [if_pos hc25] at hf
      refine va_aldq hx hb hT hP 1 2 rfl rfl (by rw [hc25]; exact vp_in_nI (by decide) (by decide)) dX6_keep_25 ?_
      refine W.eq (g2 := F0 m 26 ls [.ref ((ado 4) 0)]) (by rw [hc25]; rfl) ?_
      refine lv_aload_n hx hb dX6_keep_26 rfl (lv_at hl 1 rfl) ?_
      refine va_get (C := RX6) (T := TX6) (N := 11) (ci := 6) (v := .ref ((ado 1) 0)) hx hb hts inX6 hown hT hP 0 rfl rfl 0 (Nat.le_of_ble_eq_true rfl) lk12 (fun _ h => h) rfl dX6_keep_27 ?_
      obtain ⟨fimg1_30, hc30, hf⟩ := bd_e hf
      refine cl_v_up (Wd := (wX6 G ad ado f ++ (wX0 G (ado 1) fnow ++ (wX0 G (ado 3) fimg0 ++ (wX0 G (ado 4) fimg1))))) (Wc := (wX0 G (ado 4) fimg1 ++ (wX0 G (ado 1) fnow))) (W' := (wX0 G (ado 4) fimg1_30 ++ (wX0 G (ado 1) fnow))) (W2 := (wX6 G ad ado f ++ (wX0 G (ado 1) fnow ++ (wX0 G (ado 3) fimg0 ++ (wX0 G (ado 4) fimg1_30))))) (Wr := (wX6 G ad ado f ++ (wX0 G (ado 3) fimg0))) [26, 27, 28, 29, 30, 31, 32, 33, 34, 35, 36, 4, 5, 6, 7, 8, 9, 10, 11, 12, 13, 14] [0, 1, 2, 3, 15, 16, 17, 18, 19, 20, 21, 22, 23, 24, 25] rfl rfl rfl rfl rfl rfl (va_runVN (As := [.ref ((ado 1) 0)]) (rest := []) hC (c_X0_copyFrom l G (ado 4) (ado 1) fimg1 fnow fimg1_30 hc30 _) ⟨va_cnB 1 hts gX6_keep_X0_copyFrom_n93 rfl rfl rfl (hE.2.2 (RX6, 93, yX0_copyFrom, "FeatherShares") (List.mem_of_getElem? (i := 8) rfl)) (hts (.initialized RX0) (by decide +kernel)) (by decide +kernel) ⟨Nat.le_of_ble_eq_true rfl, Nat.le_of_ble_eq_true rfl⟩, hts (.instanceMethod yX0_copyFrom) (by decide +kernel), hts (.selects RX0 yX0_copyFrom yX0_copyFrom) (by decide +kernel)⟩ ⟨Pc0_blind, va_recv hT hP (q0 := 26) (ci := 0) rfl rfl, fun U hU hW => Pc0_at (Wd := (wX0 G (ado 4) fimg1 ++ (wX0 G (ado 1) fnow))) hE (hP.subm [26, 27, 28, 29, 30, 31, 32, 33, 34, 35, 36, 4, 5, 6, 7, 8, 9, 10, 11, 12, 13, 14] rfl) (hD.sub [26, 27, 28, 29, 30, 31, 32, 33, 34, 35, 36, 4, 5, 6, 7, 8, 9, 10, 11, 12, 13, 14] (by decide) rfl) hU hW⟩ rfl rfl hl.1 rfl (lv_room (Nat.le_of_ble_eq_true rfl)) dX6_keep_30 ⟨Nat.zero_le _, Nat.zero_le _⟩) hS hA hP hD (fun H locs hP hD hS => ?_)
      refine lv_aload_n hx hb dX6_keep_33 rfl (lv_at hl 1 rfl) ?_
      refine lv_dup hx hb dX6_keep_34 rfl ?_
      refine va_get (C := RX6) (T := TX6) (N := 11) (ci := 6) (v := .int (f 0 0)) hx hb hts inX6 hown hT hP 0 rfl rfl 3 (Nat.le_of_ble_eq_true rfl) lk23 (fun _ h => h) rfl dX6_keep_35 ?_
      refine lv_iconst (v := (nI 1)) hx hb dX6_keep_38 (ic_1) ?_
      refine lv_iload_n hx hb dX6_keep_39 rfl (lv_at hl 2 rfl) ?_
      refine lv_ishl hx hb dX6_keep_40 ?_
      refine lv_ior hx hb dX6_keep_41 ?_
      refine va_put (C := RX6) (T := TX6) (N := 11) (ci := 6) (ty := .int) (v := .int ((f 0 0) ||| ((nI 1) <<< (x1 &&& 31)))) hx hb hts inX6 tyX6 tyX6_ok nmX6 hown hT hP hD hS 0 rfl rfl 3 (Nat.le_of_ble_eq_true rfl) lk23 (fun _ h => h) rfl (by decide +kernel) rfl rfl (Nat.le_of_ble_eq_true rfl) dX6_keep_42 (fun H locs hP hD hS => ?_)
      have hP : va_P G.1 vwCl (wX6 G ad ado (mset 0 0 ((f 0 0) ||| ((nI 1) <<< (x1 &&& 31))) f) ++ (wX0 G (ado 1) fnow ++ (wX0 G (ado 3) fimg0 ++ (wX0 G (ado 4) fimg1_30)))) H := hP
      have hD : va_D A (wX6 G ad ado (mset 0 0 ((f 0 0) ||| ((nI 1) <<< (x1 &&& 31))) f) ++ (wX0 G (ado 1) fnow ++ (wX0 G (ado 3) fimg0 ++ (wX0 G (ado 4) fimg1_30)))) := hD
      refine lv_iload_n hx hb dX6_keep_45 rfl (lv_at hl 0 rfl) ?_
      have hK9 := K0_of hf hK
      exact hRet (((f 0 0) >>> (x1 &&& 31)) &&& (nI 1)) (mset 0 0 ((f 0 0) ||| ((nI 1) <<< (x1 &&& 31))) f) fimg0 fimg1_30 _ _ _ _ hK9 dX6_keep_46 hP hD hS
    rw [if_neg hc25] at hf
    cases hf
  · have hf := if_t hf hc
    refine lv_iconst (v := (-1 : Int32)) hx hb dX6_keep_9 (ic_m1) ?_
    have hK9 := K0_of hf hK
    exact hRet (-1 : Int32) f fimg0 fimg1 _ _ _ _ hK9 dX6_keep_10 hP hD hS
noncomputable def p_X6_back (f : Mem) (fnow : Mem) (fimg0 : Mem) (fimg1 : Mem) (x1 : Int32) : Option (Int32 × Mem) :=
  Option.bind (p_X6_isWithin x1 (nI 0) (nI 1)) <| fun r3 =>
  if r3 = 0 then
    (some ((-1 : Int32), fnow))
  else
    (if (((f 0 0) >>> (x1 &&& 31)) &&& (nI 1)) = 0 then
       (some ((-2 : Int32), fnow))
     else
       (if x1 = nI 0 then
          (Option.bind (p_X0_copyFrom fnow fimg0) <| fun fnow_35 =>
          some ((fnow_35 0 1), fnow_35))
        else if x1 = nI 1 then
          (Option.bind (p_X0_copyFrom fnow fimg1) <| fun fnow_35 =>
          some ((fnow_35 0 1), fnow_35))
        else none))
set_option maxHeartbeats 4000000 in
set_option maxRecDepth 100000 in
theorem c_X6_back (l : Launch) (G : Gt) (ad : Nat → Nat) (ado : Nat → Nat → Nat) (f : Mem) (fnow : Mem) (fimg0 : Mem) (fimg1 : Mem) (x1 : Int32) (r : Int32) (fnowz : Mem) (hf : p_X6_back f fnow fimg0 fimg1 x1 = some (r, fnowz)) (sz : Nat) : Met l yX6_back wsX6_back ({ frames := 2, cells := 0, slots := 0, locals := 61 }) (Pc0 G sz [.ref (ad 0), .int x1] (wX6 G ad ado f ++ (wX0 G (ado 1) fnow ++ (wX0 G (ado 3) fimg0 ++ (wX0 G (ado 4) fimg1))))) (Qi0 G (va_A (wX6 G ad ado f ++ (wX0 G (ado 1) fnow ++ (wX0 G (ado 3) fimg0 ++ (wX0 G (ado 4) fimg1)))) sz) r (wX6 G ad ado f ++ (wX0 G (ado 1) fnowz ++ (wX0 G (ado 3) fimg0 ++ (wX0 G (ado 4) fimg1))))) 0 0 (va_A (wX6 G ad ado f ++ (wX0 G (ado 1) fnow ++ (wX0 G (ado 3) fimg0 ++ (wX0 G (ado 4) fimg1)))) sz) := by
  refine metP (Qf := fun A => Qi0 G A r (wX6 G ad ado f ++ (wX0 G (ado 1) fnowz ++ (wX0 G (ado 3) fimg0 ++ (wX0 G (ado 4) fimg1))))) cX6_back 2 (some .int) (by decide) rfl (Nat.le_of_ble_eq_true rfl) ?_
  intro p e s m below meth c A ls hC hr hlocks hin hE hA hsz hP hD hS hl
  generalize hargs : ([.ref (ad 0), .int x1] : List Value).toArray = args at hC ⊢
  obtain ⟨hx, hb, hml, hown, hts⟩ := id hC
  have hT : va_K G.1 vwCl (tyL G) s := hE.1
  have hRet : ∀ (r9 : Int32) (fnow9 : Mem) (H : Heap) (locs : List Loc) (ls : Array Slot) (pc : Nat) (hK9 : (r9, fnow9) = (r, fnowz)) (hdg : decode cX6_back pc = .ok (.ireturn, 1)), va_P G.1 vwCl (wX6 G ad ado f ++ (wX0 G (ado 1) fnow9 ++ (wX0 G (ado 3) fimg0 ++ (wX0 G (ado 4) fimg1)))) H → va_D A (wX6 G ad ado f ++ (wX0 G (ado 1) fnow9 ++ (wX0 G (ado 3) fimg0 ++ (wX0 G (ado 4) fimg1)))) → va_S A s.heap H locs → W p l e ({ frames := 2, cells := 0, slots := 0, locals := 61 }) s m args below meth c H locs 0 0 (MQ below (Qi0 G A r (wX6 G ad ado f ++ (wX0 G (ado 1) fnowz ++ (wX0 G (ado 3) fimg0 ++ (wX0 G (ado 4) fimg1))))) args s 0 0 A) (F0 m pc ls [.int r9]) := by
    intro r9 fnow9 H locs ls pc hK9 hdg hP hD hS
    cases hK9
    exact W.iret hx hb hr (fun t ht hW => ⟨⟨r, (), rfl, rfl, by rw [ht]; exact hP, hD⟩, hS.F ht⟩) hS.2.2 hdg hlocks
  generalize MQ below (Qi0 G A r (wX6 G ad ado f ++ (wX0 G (ado 1) fnowz ++ (wX0 G (ado 3) fimg0 ++ (wX0 G (ado 4) fimg1))))) args s 0 0 A = Q at hRet ⊢
  have lk23 := hts (.fieldLink RX6 23 "FeatherShares" "keptImages" "I") (by decide +kernel)
  have inX6 : ∀ w ∈ u_ws RX6 TX6 11, w ∈ wsX6_back := by decide +kernel
  have lk12 := hts (.fieldLink RX6 12 "FeatherShares" "now" "LFeatherShares$Flock;") (by decide +kernel)
  have lk19 := hts (.fieldLink RX6 19 "FeatherShares" "images" "[LFeatherShares$Flock;") (by decide +kernel)
  have lk106 := va_Nw.use (A := args) rfl (hE.2.1 (RX6, 106, "FeatherShares$Flock", "week", "I", "FeatherShares") (List.mem_of_getElem? (i := 7) rfl))
  have inX0 : ∀ w ∈ u_ws RX0 TX0 13, w ∈ wsX6_back := by decide +kernel
  have hl : lv_has ls 2 [(0, .ref (ad 0)), (1, .int x1)] := hl
  have hK0 : (r, fnowz) = (r, fnowz) := rfl
  obtain ⟨res, hres, hK⟩ : ∃ res, p_X6_back f fnow fimg0 fimg1 x1 = some res ∧ res = (r, fnowz) := ⟨_, hf, rfl⟩
  clear hf
  have hf := hres
  clear hres
  unfold p_X6_back at hf
  refine lv_iload_n hx hb dX6_back_0 rfl (lv_at hl 1 rfl) ?_
  refine lv_iconst (v := (nI 0)) hx hb dX6_back_1 (ic_0) ?_
  refine lv_iconst (v := (nI 1)) hx hb dX6_back_2 (ic_1) ?_
  obtain ⟨r3, hc3, hf⟩ := bd_e hf
  refine cl_z_ro (Wd := (wX6 G ad ado f ++ (wX0 G (ado 1) fnow ++ (wX0 G (ado 3) fimg0 ++ (wX0 G (ado 4) fimg1))))) (Wc := ([] : va_W)) [] rfl (va_runS (As := [.int x1, .int (nI 0), .int (nI 1)]) (rest := []) hC (c_X6_isWithin l G x1 (nI 0) (nI 1) r3 hc3 _) (va_cwS 3 hts gX6_back_X6_isWithin rfl rfl rfl (by decide +kernel) ⟨Nat.le_of_ble_eq_true rfl, Nat.le_of_ble_eq_true rfl⟩) ⟨Pc0_blind, fun U hU hW => Pc0_at (Wd := ([] : va_W)) hE (hP.subm [] rfl) (hD.sub [] (by decide) rfl) hU hW⟩ rfl rfl hl.1 rfl (lv_room (Nat.le_of_ble_eq_true rfl)) dX6_back_3 ⟨Nat.zero_le _, Nat.zero_le _⟩) hS hA hP hD (fun H locs hn3 hP hD hS => ?_)
  refine lv_if_ne (tgt := 11) hx hb dX6_back_6 (by decide) (fun hc => ?_) (fun hc => ?_)
  · have hf := if_f hf hc
    refine lv_aload_n hx hb dX6_back_11 rfl (lv_at hl 0 rfl) ?_
    refine va_get (C := RX6) (T := TX6) (N := 11) (ci := 6) (v := .int (f 0 0)) hx hb hts inX6 hown hT hP 0 rfl rfl 3 (Nat.le_of_ble_eq_true rfl) lk23 (fun _ h => h) rfl dX6_back_12 ?_
    refine lv_iload_n hx hb dX6_back_15 rfl (lv_at hl 1 rfl) ?_
    refine lv_ishr hx hb dX6_back_16 ?_
    refine lv_iconst (v := (nI 1)) hx hb dX6_back_17 (ic_1) ?_
    refine lv_iand hx hb dX6_back_18 ?_
    refine lv_if_ne (tgt := 25) hx hb dX6_back_19 (by decide) (fun hc => ?_) (fun hc => ?_)
    · have hf := if_f hf hc
      refine lv_aload_n hx hb dX6_back_25 rfl (lv_at hl 0 rfl) ?_
      refine va_get (C := RX6) (T := TX6) (N := 11) (ci := 6) (v := .ref ((ado 1) 0)) hx hb hts inX6 hown hT hP 0 rfl rfl 0 (Nat.le_of_ble_eq_true rfl) lk12 (fun _ h => h) rfl dX6_back_26 ?_
      refine lv_aload_n hx hb dX6_back_29 rfl (lv_at hl 0 rfl) ?_
      refine va_get (C := RX6) (T := TX6) (N := 11) (ci := 6) (v := .ref (ad 1)) hx hb hts inX6 hown hT hP 0 rfl rfl 2 (Nat.le_of_ble_eq_true rfl) lk19 (fun _ h => h) rfl dX6_back_30 ?_
      refine lv_iload_n hx hb dX6_back_33 rfl (lv_at hl 1 rfl) ?_
      by_cases hc34 : x1 = nI 0
      · rw [if_pos hc34] at hf
        refine va_aldq hx hb hT hP 1 2 rfl rfl (by rw [hc34]; exact vp_in_nI (by decide) (by decide)) dX6_back_34 ?_
        refine W.eq (g2 := F0 m 35 ls [.ref ((ado 3) 0), .ref ((ado 1) 0)]) (by rw [hc34]; rfl) ?_
        obtain ⟨fnow_35, hc35, hf⟩ := bd_e hf
        refine cl_v_up (Wd := (wX6 G ad ado f ++ (wX0 G (ado 1) fnow ++ (wX0 G (ado 3) fimg0 ++ (wX0 G (ado 4) fimg1))))) (Wc := (wX0 G (ado 1) fnow ++ (wX0 G (ado 3) fimg0))) (W' := (wX0 G (ado 1) fnow_35 ++ (wX0 G (ado 3) fimg0))) (W2 := (wX6 G ad ado f ++ (wX0 G (ado 1) fnow_35 ++ (wX0 G (ado 3) fimg0 ++ (wX0 G (ado 4) fimg1))))) (Wr := (wX6 G ad ado f ++ (wX0 G (ado 4) fimg1))) [4, 5, 6, 7, 8, 9, 10, 11, 12, 13, 14, 15, 16, 17, 18, 19, 20, 21, 22, 23, 24, 25] [0, 1, 2, 3, 26, 27, 28, 29, 30, 31, 32, 33, 34, 35, 36] rfl rfl rfl rfl rfl rfl (va_runVN (As := [.ref ((ado 3) 0)]) (rest := []) hC (c_X0_copyFrom l G (ado 1) (ado 3) fnow fimg0 fnow_35 hc35 _) ⟨va_cnB 1 hts gX6_back_X0_copyFrom_n93 rfl rfl rfl (hE.2.2 (RX6, 93, yX0_copyFrom, "FeatherShares") (List.mem_of_getElem? (i := 8) rfl)) (hts (.initialized RX0) (by decide +kernel)) (by decide +kernel) ⟨Nat.le_of_ble_eq_true rfl, Nat.le_of_ble_eq_true rfl⟩, hts (.instanceMethod yX0_copyFrom) (by decide +kernel), hts (.selects RX0 yX0_copyFrom yX0_copyFrom) (by decide +kernel)⟩ ⟨Pc0_blind, va_recv hT hP (q0 := 4) (ci := 0) rfl rfl, fun U hU hW => Pc0_at (Wd := (wX0 G (ado 1) fnow ++ (wX0 G (ado 3) fimg0))) hE (hP.subm [4, 5, 6, 7, 8, 9, 10, 11, 12, 13, 14, 15, 16, 17, 18, 19, 20, 21, 22, 23, 24, 25] rfl) (hD.sub [4, 5, 6, 7, 8, 9, 10, 11, 12, 13, 14, 15, 16, 17, 18, 19, 20, 21, 22, 23, 24, 25] (by decide) rfl) hU hW⟩ rfl rfl hl.1 rfl (lv_room (Nat.le_of_ble_eq_true rfl)) dX6_back_35 ⟨Nat.zero_le _, Nat.zero_le _⟩) hS hA hP hD (fun H locs hP hD hS => ?_)
        refine lv_aload_n hx hb dX6_back_38 rfl (lv_at hl 0 rfl) ?_
        refine va_get (C := RX6) (T := TX6) (N := 11) (ci := 6) (v := .ref ((ado 1) 0)) hx hb hts inX6 hown hT hP 0 rfl rfl 0 (Nat.le_of_ble_eq_true rfl) lk12 (fun _ h => h) rfl dX6_back_39 ?_
        refine va_getN (C := RX0) (T := TX0) (N := 13) (ci := 0) (v := .int (fnow_35 0 1)) hx hb hts inX0 hown hT hP 4 rfl rfl 1 (Nat.le_of_ble_eq_true rfl) lk106 (fun _ h => h) rfl dX6_back_42 ?_
        have hK9 := K0_of hf hK
        exact hRet (fnow_35 0 1) fnow_35 _ _ _ _ hK9 dX6_back_45 hP hD hS
      rw [if_neg hc34] at hf
      by_cases hc34 : x1 = nI 1
      · rw [if_pos hc34] at hf
        refine va_aldq hx hb hT hP 1 2 rfl rfl (by rw [hc34]; exact vp_in_nI (by decide) (by decide)) dX6_back_34 ?_
        refine W.eq (g2 := F0 m 35 ls [.ref ((ado 4) 0), .ref ((ado 1) 0)]) (by rw [hc34]; rfl) ?_
        obtain ⟨fnow_35, hc35, hf⟩ := bd_e hf
        refine cl_v_up (Wd := (wX6 G ad ado f ++ (wX0 G (ado 1) fnow ++ (wX0 G (ado 3) fimg0 ++ (wX0 G (ado 4) fimg1))))) (Wc := (wX0 G (ado 1) fnow ++ (wX0 G (ado 4) fimg1))) (W' := (wX0 G (ado 1) fnow_35 ++ (wX0 G (ado 4) fimg1))) (W2 := (wX6 G ad ado f ++ (wX0 G (ado 1) fnow_35 ++ (wX0 G (ado 3) fimg0 ++ (wX0 G (ado 4) fimg1))))) (Wr := (wX6 G ad ado f ++ (wX0 G (ado 3) fimg0))) [4, 5, 6, 7, 8, 9, 10, 11, 12, 13, 14, 26, 27, 28, 29, 30, 31, 32, 33, 34, 35, 36] [0, 1, 2, 3, 15, 16, 17, 18, 19, 20, 21, 22, 23, 24, 25] rfl rfl rfl rfl rfl rfl (va_runVN (As := [.ref ((ado 4) 0)]) (rest := []) hC (c_X0_copyFrom l G (ado 1) (ado 4) fnow fimg1 fnow_35 hc35 _) ⟨va_cnB 1 hts gX6_back_X0_copyFrom_n93 rfl rfl rfl (hE.2.2 (RX6, 93, yX0_copyFrom, "FeatherShares") (List.mem_of_getElem? (i := 8) rfl)) (hts (.initialized RX0) (by decide +kernel)) (by decide +kernel) ⟨Nat.le_of_ble_eq_true rfl, Nat.le_of_ble_eq_true rfl⟩, hts (.instanceMethod yX0_copyFrom) (by decide +kernel), hts (.selects RX0 yX0_copyFrom yX0_copyFrom) (by decide +kernel)⟩ ⟨Pc0_blind, va_recv hT hP (q0 := 4) (ci := 0) rfl rfl, fun U hU hW => Pc0_at (Wd := (wX0 G (ado 1) fnow ++ (wX0 G (ado 4) fimg1))) hE (hP.subm [4, 5, 6, 7, 8, 9, 10, 11, 12, 13, 14, 26, 27, 28, 29, 30, 31, 32, 33, 34, 35, 36] rfl) (hD.sub [4, 5, 6, 7, 8, 9, 10, 11, 12, 13, 14, 26, 27, 28, 29, 30, 31, 32, 33, 34, 35, 36] (by decide) rfl) hU hW⟩ rfl rfl hl.1 rfl (lv_room (Nat.le_of_ble_eq_true rfl)) dX6_back_35 ⟨Nat.zero_le _, Nat.zero_le _⟩) hS hA hP hD (fun H locs hP hD hS => ?_)
        refine lv_aload_n hx hb dX6_back_38 rfl (lv_at hl 0 rfl) ?_
        refine va_get (C := RX6) (T := TX6) (N := 11) (ci := 6) (v := .ref ((ado 1) 0)) hx hb hts inX6 hown hT hP 0 rfl rfl 0 (Nat.le_of_ble_eq_true rfl) lk12 (fun _ h => h) rfl dX6_back_39 ?_
        refine va_getN (C := RX0) (T := TX0) (N := 13) (ci := 0) (v := .int (fnow_35 0 1)) hx hb hts inX0 hown hT hP 4 rfl rfl 1 (Nat.le_of_ble_eq_true rfl) lk106 (fun _ h => h) rfl dX6_back_42 ?_
        have hK9 := K0_of hf hK
        exact hRet (fnow_35 0 1) fnow_35 _ _ _ _ hK9 dX6_back_45 hP hD hS
      rw [if_neg hc34] at hf
      cases hf
    · have hf := if_t hf hc
      refine lv_bipush (v := (-2 : Int32)) hx hb dX6_back_22 (bi_m2) ?_
      have hK9 := K0_of hf hK
      exact hRet (-2 : Int32) fnow _ _ _ _ hK9 dX6_back_24 hP hD hS
  · have hf := if_t hf hc
    refine lv_iconst (v := (-1 : Int32)) hx hb dX6_back_9 (ic_m1) ?_
    have hK9 := K0_of hf hK
    exact hRet (-1 : Int32) fnow _ _ _ _ hK9 dX6_back_10 hP hD hS
noncomputable def p_X6_sheet (f : Mem) (fsheet0 : Mem) (fsheet1 : Mem) (fsheet2 : Mem) (fsheet3 : Mem) (x1 : Int32) (x2 : Int32) (x3 : Int32) : Option (Int32 × Mem × Mem × Mem × Mem) :=
  Option.bind (p_X6_isSheet x1) <| fun r1 =>
  if r1 = 0 then
    (some ((-1 : Int32), fsheet0, fsheet1, fsheet2, fsheet3))
  else
    (Option.bind (p_X6_isLane x2) <| fun r8 =>
     if r8 = 0 then
       (some ((-1 : Int32), fsheet0, fsheet1, fsheet2, fsheet3))
     else
       (if x3 ≤ (nI 40) then
          (if 0 ≤ x3 then
             (if x1 = nI 0 then
                (Option.bind (p_X2_renew fsheet0 x2 x3) <| fun fsheet0_37 =>
                some ((nI 1), fsheet0_37, fsheet1, fsheet2, fsheet3))
              else if x1 = nI 1 then
                (Option.bind (p_X2_renew fsheet1 x2 x3) <| fun fsheet1_37 =>
                some ((nI 1), fsheet0, fsheet1_37, fsheet2, fsheet3))
              else if x1 = nI 2 then
                (Option.bind (p_X2_renew fsheet2 x2 x3) <| fun fsheet2_37 =>
                some ((nI 1), fsheet0, fsheet1, fsheet2_37, fsheet3))
              else if x1 = nI 3 then
                (Option.bind (p_X2_renew fsheet3 x2 x3) <| fun fsheet3_37 =>
                some ((nI 1), fsheet0, fsheet1, fsheet2, fsheet3_37))
              else none)
           else
             (some ((-14 : Int32), fsheet0, fsheet1, fsheet2, fsheet3)))
        else
          (some ((-1 : Int32), fsheet0, fsheet1, fsheet2, fsheet3))))
set_option maxHeartbeats 4000000 in
set_option maxRecDepth 100000 in
theorem c_X6_sheet (l : Launch) (G : Gt) (ad : Nat → Nat) (ado : Nat → Nat → Nat) (f : Mem) (fsheet0 : Mem) (fsheet1 : Mem) (fsheet2 : Mem) (fsheet3 : Mem) (x1 : Int32) (x2 : Int32) (x3 : Int32) (r : Int32) (fsheet0z : Mem) (fsheet1z : Mem) (fsheet2z : Mem) (fsheet3z : Mem) (hf : p_X6_sheet f fsheet0 fsheet1 fsheet2 fsheet3 x1 x2 x3 = some (r, fsheet0z, fsheet1z, fsheet2z, fsheet3z)) (sz : Nat) : Met l yX6_sheet wsX6_sheet ({ frames := 3, cells := 0, slots := 0, locals := 57 }) (Pc0 G sz [.ref (ad 0), .int x1, .int x2, .int x3] (wX6 G ad ado f ++ (wX2 G (ado 11) fsheet0 ++ (wX2 G (ado 12) fsheet1 ++ (wX2 G (ado 13) fsheet2 ++ (wX2 G (ado 14) fsheet3)))))) (Qi0 G (va_A (wX6 G ad ado f ++ (wX2 G (ado 11) fsheet0 ++ (wX2 G (ado 12) fsheet1 ++ (wX2 G (ado 13) fsheet2 ++ (wX2 G (ado 14) fsheet3))))) sz) r (wX6 G ad ado f ++ (wX2 G (ado 11) fsheet0z ++ (wX2 G (ado 12) fsheet1z ++ (wX2 G (ado 13) fsheet2z ++ (wX2 G (ado 14) fsheet3z)))))) 0 0 (va_A (wX6 G ad ado f ++ (wX2 G (ado 11) fsheet0 ++ (wX2 G (ado 12) fsheet1 ++ (wX2 G (ado 13) fsheet2 ++ (wX2 G (ado 14) fsheet3))))) sz) := by
  refine metP (Qf := fun A => Qi0 G A r (wX6 G ad ado f ++ (wX2 G (ado 11) fsheet0z ++ (wX2 G (ado 12) fsheet1z ++ (wX2 G (ado 13) fsheet2z ++ (wX2 G (ado 14) fsheet3z)))))) cX6_sheet 4 (some .int) (by decide) rfl (Nat.le_of_ble_eq_true rfl) ?_
  intro p e s m below meth c A ls hC hr hlocks hin hE hA hsz hP hD hS hl
  generalize hargs : ([.ref (ad 0), .int x1, .int x2, .int x3] : List Value).toArray = args at hC ⊢
  obtain ⟨hx, hb, hml, hown, hts⟩ := id hC
  have hT : va_K G.1 vwCl (tyL G) s := hE.1
  have hRet : ∀ (r9 : Int32) (fsheet09 : Mem) (fsheet19 : Mem) (fsheet29 : Mem) (fsheet39 : Mem) (H : Heap) (locs : List Loc) (ls : Array Slot) (pc : Nat) (hK9 : (r9, fsheet09, fsheet19, fsheet29, fsheet39) = (r, fsheet0z, fsheet1z, fsheet2z, fsheet3z)) (hdg : decode cX6_sheet pc = .ok (.ireturn, 1)), va_P G.1 vwCl (wX6 G ad ado f ++ (wX2 G (ado 11) fsheet09 ++ (wX2 G (ado 12) fsheet19 ++ (wX2 G (ado 13) fsheet29 ++ (wX2 G (ado 14) fsheet39))))) H → va_D A (wX6 G ad ado f ++ (wX2 G (ado 11) fsheet09 ++ (wX2 G (ado 12) fsheet19 ++ (wX2 G (ado 13) fsheet29 ++ (wX2 G (ado 14) fsheet39))))) → va_S A s.heap H locs → W p l e ({ frames := 3, cells := 0, slots := 0, locals := 57 }) s m args below meth c H locs 0 0 (MQ below (Qi0 G A r (wX6 G ad ado f ++ (wX2 G (ado 11) fsheet0z ++ (wX2 G (ado 12) fsheet1z ++ (wX2 G (ado 13) fsheet2z ++ (wX2 G (ado 14) fsheet3z)))))) args s 0 0 A) (F0 m pc ls [.int r9]) := by
    intro r9 fsheet09 fsheet19 fsheet29 fsheet39 H locs ls pc hK9 hdg hP hD hS
    cases hK9
    exact W.iret hx hb hr (fun t ht hW => ⟨⟨r, (), rfl, rfl, by rw [ht]; exact hP, hD⟩, hS.F ht⟩) hS.2.2 hdg hlocks
  generalize MQ below (Qi0 G A r (wX6 G ad ado f ++ (wX2 G (ado 11) fsheet0z ++ (wX2 G (ado 12) fsheet1z ++ (wX2 G (ado 13) fsheet2z ++ (wX2 G (ado 14) fsheet3z)))))) args s 0 0 A = Q at hRet ⊢
  have lk61 := hts (.fieldLink RX6 61 "FeatherShares" "sheets" "[LFeatherShares$Sheet;") (by decide +kernel)
  have inX6 : ∀ w ∈ u_ws RX6 TX6 11, w ∈ wsX6_sheet := by decide +kernel
  have hl : lv_has ls 4 [(0, .ref (ad 0)), (1, .int x1), (2, .int x2), (3, .int x3)] := hl
  have hK0 : (r, fsheet0z, fsheet1z, fsheet2z, fsheet3z) = (r, fsheet0z, fsheet1z, fsheet2z, fsheet3z) := rfl
  obtain ⟨res, hres, hK⟩ : ∃ res, p_X6_sheet f fsheet0 fsheet1 fsheet2 fsheet3 x1 x2 x3 = some res ∧ res = (r, fsheet0z, fsheet1z, fsheet2z, fsheet3z) := ⟨_, hf, rfl⟩
  clear hf
  have hf := hres
  clear hres
  unfold p_X6_sheet at hf
  refine lv_iload_n hx hb dX6_sheet_0 rfl (lv_at hl 1 rfl) ?_
  obtain ⟨r1, hc1, hf⟩ := bd_e hf
  refine cl_z_ro (Wd := (wX6 G ad ado f ++ (wX2 G (ado 11) fsheet0 ++ (wX2 G (ado 12) fsheet1 ++ (wX2 G (ado 13) fsheet2 ++ (wX2 G (ado 14) fsheet3)))))) (Wc := ([] : va_W)) [] rfl (va_runS (As := [.int x1]) (rest := []) hC (c_X6_isSheet l G x1 r1 hc1 _) (va_cwS 1 hts gX6_sheet_X6_isSheet rfl rfl rfl (by decide +kernel) ⟨Nat.le_of_ble_eq_true rfl, Nat.le_of_ble_eq_true rfl⟩) ⟨Pc0_blind, fun U hU hW => Pc0_at (Wd := ([] : va_W)) hE (hP.subm [] rfl) (hD.sub [] (by decide) rfl) hU hW⟩ rfl rfl hl.1 rfl (lv_room (Nat.le_of_ble_eq_true rfl)) dX6_sheet_1 ⟨Nat.zero_le _, Nat.zero_le _⟩) hS hA hP hD (fun H locs hn1 hP hD hS => ?_)
  refine lv_if_eq (tgt := 20) hx hb dX6_sheet_4 (by decide) (fun hc => ?_) (fun hc => ?_)
  · have hf := if_t hf hc
    refine lv_iconst (v := (-1 : Int32)) hx hb dX6_sheet_20 (ic_m1) ?_
    have hK9 := K0_of hf hK
    exact hRet (-1 : Int32) fsheet0 fsheet1 fsheet2 fsheet3 _ _ _ _ hK9 dX6_sheet_21 hP hD hS
  · have hf := if_f hf hc
    refine lv_iload_n hx hb dX6_sheet_7 rfl (lv_at hl 2 rfl) ?_
    obtain ⟨r8, hc8, hf⟩ := bd_e hf
    refine cl_z_ro (Wd := (wX6 G ad ado f ++ (wX2 G (ado 11) fsheet0 ++ (wX2 G (ado 12) fsheet1 ++ (wX2 G (ado 13) fsheet2 ++ (wX2 G (ado 14) fsheet3)))))) (Wc := ([] : va_W)) [] rfl (va_runS (As := [.int x2]) (rest := []) hC (c_X6_isLane l G x2 r8 hc8 _) (va_cwS 1 hts gX6_sheet_X6_isLane rfl rfl rfl (by decide +kernel) ⟨Nat.le_of_ble_eq_true rfl, Nat.le_of_ble_eq_true rfl⟩) ⟨Pc0_blind, fun U hU hW => Pc0_at (Wd := ([] : va_W)) hE (hP.subm [] rfl) (hD.sub [] (by decide) rfl) hU hW⟩ rfl rfl hl.1 rfl (lv_room (Nat.le_of_ble_eq_true rfl)) dX6_sheet_8 ⟨Nat.zero_le _, Nat.zero_le _⟩) hS hA hP hD (fun H locs hn8 hP hD hS => ?_)
    refine lv_if_eq (tgt := 20) hx hb dX6_sheet_11 (by decide) (fun hc => ?_) (fun hc => ?_)
    · have hf := if_t hf hc
      refine lv_iconst (v := (-1 : Int32)) hx hb dX6_sheet_20 (ic_m1) ?_
      have hK9 := K0_of hf hK
      exact hRet (-1 : Int32) fsheet0 fsheet1 fsheet2 fsheet3 _ _ _ _ hK9 dX6_sheet_21 hP hD hS
    · have hf := if_f hf hc
      refine lv_iload_n hx hb dX6_sheet_14 rfl (lv_at hl 3 rfl) ?_
      refine lv_bipush (v := (nI 40)) hx hb dX6_sheet_15 (bi_40) ?_
      refine lv_icmp_le (tgt := 22) hx hb dX6_sheet_17 (by decide) (fun hc => ?_) (fun hc => ?_)
      · have hf := if_t hf hc
        refine lv_iload_n hx hb dX6_sheet_22 rfl (lv_at hl 3 rfl) ?_
        refine lv_if_ge (tgt := 29) hx hb dX6_sheet_23 (by decide) (fun hc => ?_) (fun hc => ?_)
        · have hf := if_t hf hc
          refine lv_aload_n hx hb dX6_sheet_29 rfl (lv_at hl 0 rfl) ?_
          refine va_get (C := RX6) (T := TX6) (N := 11) (ci := 6) (v := .ref (ad 3)) hx hb hts inX6 hown hT hP 0 rfl rfl 9 (Nat.le_of_ble_eq_true rfl) lk61 (fun _ h => h) rfl dX6_sheet_30 ?_
          refine lv_iload_n hx hb dX6_sheet_33 rfl (lv_at hl 1 rfl) ?_
          by_cases hc34 : x1 = nI 0
          · rw [if_pos hc34] at hf
            refine va_aldq hx hb hT hP 3 3 rfl rfl (by rw [hc34]; exact vp_in_nI (by decide) (by decide)) dX6_sheet_34 ?_
            refine W.eq (g2 := F0 m 35 ls [.ref ((ado 11) 0)]) (by rw [hc34]; rfl) ?_
            refine lv_iload_n hx hb dX6_sheet_35 rfl (lv_at hl 2 rfl) ?_
            refine lv_iload_n hx hb dX6_sheet_36 rfl (lv_at hl 3 rfl) ?_
            obtain ⟨fsheet0_37, hc37, hf⟩ := bd_e hf
            refine cl_v_up (Wd := (wX6 G ad ado f ++ (wX2 G (ado 11) fsheet0 ++ (wX2 G (ado 12) fsheet1 ++ (wX2 G (ado 13) fsheet2 ++ (wX2 G (ado 14) fsheet3)))))) (Wc := (wX2 G (ado 11) fsheet0)) (W' := (wX2 G (ado 11) fsheet0_37)) (W2 := (wX6 G ad ado f ++ (wX2 G (ado 11) fsheet0_37 ++ (wX2 G (ado 12) fsheet1 ++ (wX2 G (ado 13) fsheet2 ++ (wX2 G (ado 14) fsheet3)))))) (Wr := (wX6 G ad ado f ++ (wX2 G (ado 12) fsheet1 ++ (wX2 G (ado 13) fsheet2 ++ (wX2 G (ado 14) fsheet3))))) [4, 5] [0, 1, 2, 3, 6, 7, 8, 9, 10, 11] rfl rfl rfl rfl rfl rfl (va_runVN (As := [.int x2, .int x3]) (rest := []) hC (c_X2_renew l G (ado 11) fsheet0 x2 x3 fsheet0_37 hc37 _) ⟨va_cnB 2 hts gX6_sheet_X2_renew_n296 rfl rfl rfl (hE.2.2 (RX6, 296, yX2_renew, "FeatherShares") (List.mem_of_getElem? (i := 33) rfl)) (hts (.initialized RX2) (by decide +kernel)) (by decide +kernel) ⟨Nat.le_of_ble_eq_true rfl, Nat.le_of_ble_eq_true rfl⟩, hts (.instanceMethod yX2_renew) (by decide +kernel), hts (.selects RX2 yX2_renew yX2_renew) (by decide +kernel)⟩ ⟨Pc0_blind, va_recv hT hP (q0 := 4) (ci := 2) rfl rfl, fun U hU hW => Pc0_at (Wd := (wX2 G (ado 11) fsheet0)) hE (hP.subm [4, 5] rfl) (hD.sub [4, 5] (by decide) rfl) hU hW⟩ rfl rfl hl.1 rfl (lv_room (Nat.le_of_ble_eq_true rfl)) dX6_sheet_37 ⟨Nat.zero_le _, Nat.zero_le _⟩) hS hA hP hD (fun H locs hP hD hS => ?_)
            refine lv_iconst (v := (nI 1)) hx hb dX6_sheet_40 (ic_1) ?_
            have hK9 := K0_of hf hK
            exact hRet (nI 1) fsheet0_37 fsheet1 fsheet2 fsheet3 _ _ _ _ hK9 dX6_sheet_41 hP hD hS
          rw [if_neg hc34] at hf
          by_cases hc34 : x1 = nI 1
          · rw [if_pos hc34] at hf
            refine va_aldq hx hb hT hP 3 3 rfl rfl (by rw [hc34]; exact vp_in_nI (by decide) (by decide)) dX6_sheet_34 ?_
            refine W.eq (g2 := F0 m 35 ls [.ref ((ado 12) 0)]) (by rw [hc34]; rfl) ?_
            refine lv_iload_n hx hb dX6_sheet_35 rfl (lv_at hl 2 rfl) ?_
            refine lv_iload_n hx hb dX6_sheet_36 rfl (lv_at hl 3 rfl) ?_
            obtain ⟨fsheet1_37, hc37, hf⟩ := bd_e hf
            refine cl_v_up (Wd := (wX6 G ad ado f ++ (wX2 G (ado 11) fsheet0 ++ (wX2 G (ado 12) fsheet1 ++ (wX2 G (ado 13) fsheet2 ++ (wX2 G (ado 14) fsheet3)))))) (Wc := (wX2 G (ado 12) fsheet1)) (W' := (wX2 G (ado 12) fsheet1_37)) (W2 := (wX6 G ad ado f ++ (wX2 G (ado 11) fsheet0 ++ (wX2 G (ado 12) fsheet1_37 ++ (wX2 G (ado 13) fsheet2 ++ (wX2 G (ado 14) fsheet3)))))) (Wr := (wX6 G ad ado f ++ (wX2 G (ado 11) fsheet0 ++ (wX2 G (ado 13) fsheet2 ++ (wX2 G (ado 14) fsheet3))))) [6, 7] [0, 1, 2, 3, 4, 5, 8, 9, 10, 11] rfl rfl rfl rfl rfl rfl (va_runVN (As := [.int x2, .int x3]) (rest := []) hC (c_X2_renew l G (ado 12) fsheet1 x2 x3 fsheet1_37 hc37 _) ⟨va_cnB 2 hts gX6_sheet_X2_renew_n296 rfl rfl rfl (hE.2.2 (RX6, 296, yX2_renew, "FeatherShares") (List.mem_of_getElem? (i := 33) rfl)) (hts (.initialized RX2) (by decide +kernel)) (by decide +kernel) ⟨Nat.le_of_ble_eq_true rfl, Nat.le_of_ble_eq_true rfl⟩, hts (.instanceMethod yX2_renew) (by decide +kernel), hts (.selects RX2 yX2_renew yX2_renew) (by decide +kernel)⟩ ⟨Pc0_blind, va_recv hT hP (q0 := 6) (ci := 2) rfl rfl, fun U hU hW => Pc0_at (Wd := (wX2 G (ado 12) fsheet1)) hE (hP.subm [6, 7] rfl) (hD.sub [6, 7] (by decide) rfl) hU hW⟩ rfl rfl hl.1 rfl (lv_room (Nat.le_of_ble_eq_true rfl)) dX6_sheet_37 ⟨Nat.zero_le _, Nat.zero_le _⟩) hS hA hP hD (fun H locs hP hD hS => ?_)
            refine lv_iconst (v := (nI 1)) hx hb dX6_sheet_40 (ic_1) ?_
            have hK9 := K0_of hf hK
            exact hRet (nI 1) fsheet0 fsheet1_37 fsheet2 fsheet3 _ _ _ _ hK9 dX6_sheet_41 hP hD hS
          rw [if_neg hc34] at hf
          by_cases hc34 : x1 = nI 2
          · rw [if_pos hc34] at hf
            refine va_aldq hx hb hT hP 3 3 rfl rfl (by rw [hc34]; exact vp_in_nI (by decide) (by decide)) dX6_sheet_34 ?_
            refine W.eq (g2 := F0 m 35 ls [.ref ((ado 13) 0)]) (by rw [hc34]; rfl) ?_
            refine lv_iload_n hx hb dX6_sheet_35 rfl (lv_at hl 2 rfl) ?_
            refine lv_iload_n hx hb dX6_sheet_36 rfl (lv_at hl 3 rfl) ?_
            obtain ⟨fsheet2_37, hc37, hf⟩ := bd_e hf
            refine cl_v_up (Wd := (wX6 G ad ado f ++ (wX2 G (ado 11) fsheet0 ++ (wX2 G (ado 12) fsheet1 ++ (wX2 G (ado 13) fsheet2 ++ (wX2 G (ado 14) fsheet3)))))) (Wc := (wX2 G (ado 13) fsheet2)) (W' := (wX2 G (ado 13) fsheet2_37)) (W2 := (wX6 G ad ado f ++ (wX2 G (ado 11) fsheet0 ++ (wX2 G (ado 12) fsheet1 ++ (wX2 G (ado 13) fsheet2_37 ++ (wX2 G (ado 14) fsheet3)))))) (Wr := (wX6 G ad ado f ++ (wX2 G (ado 11) fsheet0 ++ (wX2 G (ado 12) fsheet1 ++ (wX2 G (ado 14) fsheet3))))) [8, 9] [0, 1, 2, 3, 4, 5, 6, 7, 10, 11] rfl rfl rfl rfl rfl rfl (va_runVN (As := [.int x2, .int x3]) (rest := []) hC (c_X2_renew l G (ado 13) fsheet2 x2 x3 fsheet2_37 hc37 _) ⟨va_cnB 2 hts gX6_sheet_X2_renew_n296 rfl rfl rfl (hE.2.2 (RX6, 296, yX2_renew, "FeatherShares") (List.mem_of_getElem? (i := 33) rfl)) (hts (.initialized RX2) (by decide +kernel)) (by decide +kernel) ⟨Nat.le_of_ble_eq_true rfl, Nat.le_of_ble_eq_true rfl⟩, hts (.instanceMethod yX2_renew) (by decide +kernel), hts (.selects RX2 yX2_renew yX2_renew) (by decide +kernel)⟩ ⟨Pc0_blind, va_recv hT hP (q0 := 8) (ci := 2) rfl rfl, fun U hU hW => Pc0_at (Wd := (wX2 G (ado 13) fsheet2)) hE (hP.subm [8, 9] rfl) (hD.sub [8, 9] (by decide) rfl) hU hW⟩ rfl rfl hl.1 rfl (lv_room (Nat.le_of_ble_eq_true rfl)) dX6_sheet_37 ⟨Nat.zero_le _, Nat.zero_le _⟩) hS hA hP hD (fun H locs hP hD hS => ?_)
            refine lv_iconst (v := (nI 1)) hx hb dX6_sheet_40 (ic_1) ?_
            have hK9 := K0_of hf hK
            exact hRet (nI 1) fsheet0 fsheet1 fsheet2_37 fsheet3 _ _ _ _ hK9 dX6_sheet_41 hP hD hS
          rw [if_neg hc34] at hf
          by_cases hc34 : x1 = nI 3
          · rw [if_pos hc34] at hf
            refine va_aldq hx hb hT hP 3 3 rfl rfl (by rw [hc34]; exact vp_in_nI (by decide) (by decide)) dX6_sheet_34 ?_
            refine W.eq (g2 := F0 m 35 ls [.ref ((ado 14) 0)]) (by rw [hc34]; rfl) ?_
            refine lv_iload_n hx hb dX6_sheet_35 rfl (lv_at hl 2 rfl) ?_
            refine lv_iload_n hx hb dX6_sheet_36 rfl (lv_at hl 3 rfl) ?_
            obtain ⟨fsheet3_37, hc37, hf⟩ := bd_e hf
            refine cl_v_up (Wd := (wX6 G ad ado f ++ (wX2 G (ado 11) fsheet0 ++ (wX2 G (ado 12) fsheet1 ++ (wX2 G (ado 13) fsheet2 ++ (wX2 G (ado 14) fsheet3)))))) (Wc := (wX2 G (ado 14) fsheet3)) (W' := (wX2 G (ado 14) fsheet3_37)) (W2 := (wX6 G ad ado f ++ (wX2 G (ado 11) fsheet0 ++ (wX2 G (ado 12) fsheet1 ++ (wX2 G (ado 13) fsheet2 ++ (wX2 G (ado 14) fsheet3_37)))))) (Wr := (wX6 G ad ado f ++ (wX2 G (ado 11) fsheet0 ++ (wX2 G (ado 12) fsheet1 ++ (wX2 G (ado 13) fsheet2))))) [10, 11] [0, 1, 2, 3, 4, 5, 6, 7, 8, 9] rfl rfl rfl rfl rfl rfl (va_runVN (As := [.int x2, .int x3]) (rest := []) hC (c_X2_renew l G (ado 14) fsheet3 x2 x3 fsheet3_37 hc37 _) ⟨va_cnB 2 hts gX6_sheet_X2_renew_n296 rfl rfl rfl (hE.2.2 (RX6, 296, yX2_renew, "FeatherShares") (List.mem_of_getElem? (i := 33) rfl)) (hts (.initialized RX2) (by decide +kernel)) (by decide +kernel) ⟨Nat.le_of_ble_eq_true rfl, Nat.le_of_ble_eq_true rfl⟩, hts (.instanceMethod yX2_renew) (by decide +kernel), hts (.selects RX2 yX2_renew yX2_renew) (by decide +kernel)⟩ ⟨Pc0_blind, va_recv hT hP (q0 := 10) (ci := 2) rfl rfl, fun U hU hW => Pc0_at (Wd := (wX2 G (ado 14) fsheet3)) hE (hP.subm [10, 11] rfl) (hD.sub [10, 11] (by decide) rfl) hU hW⟩ rfl rfl hl.1 rfl (lv_room (Nat.le_of_ble_eq_true rfl)) dX6_sheet_37 ⟨Nat.zero_le _, Nat.zero_le _⟩) hS hA hP hD (fun H locs hP hD hS => ?_)
            refine lv_iconst (v := (nI 1)) hx hb dX6_sheet_40 (ic_1) ?_
            have hK9 := K0_of hf hK
            exact hRet (nI 1) fsheet0 fsheet1 fsheet2 fsheet3_37 _ _ _ _ hK9 dX6_sheet_41 hP hD hS
          rw [if_neg hc34] at hf
          cases hf
        · have hf := if_f hf hc
          refine lv_bipush (v := (-14 : Int32)) hx hb dX6_sheet_26 (bi_m14) ?_
          have hK9 := K0_of hf hK
          exact hRet (-14 : Int32) fsheet0 fsheet1 fsheet2 fsheet3 _ _ _ _ hK9 dX6_sheet_28 hP hD hS
      · have hf := if_f hf hc
        refine lv_iconst (v := (-1 : Int32)) hx hb dX6_sheet_20 (ic_m1) ?_
        have hK9 := K0_of hf hK
        exact hRet (-1 : Int32) fsheet0 fsheet1 fsheet2 fsheet3 _ _ _ _ hK9 dX6_sheet_21 hP hD hS
noncomputable def p_X6_lay (f : Mem) (fsheet0 : Mem) (fsheet1 : Mem) (fsheet2 : Mem) (fsheet3 : Mem) (x1 : Int32) (x2 : Int32) (x3 : Int32) : Option (Int32 × Mem × Mem × Mem × Mem) :=
  Option.bind (p_X6_isSheet x1) <| fun r1 =>
  if r1 = 0 then
    (some ((-1 : Int32), fsheet0, fsheet1, fsheet2, fsheet3))
  else
    (if x1 = nI 0 then
       (Option.bind (p_X2_put fsheet0 x2 x3) <| fun (r17, fsheet0_17) =>
       if r17 = 0 then
         (some ((nI 1), fsheet0_17, fsheet1, fsheet2, fsheet3))
       else
         (some (((-10 : Int32) - r17), fsheet0_17, fsheet1, fsheet2, fsheet3)))
     else if x1 = nI 1 then
       (Option.bind (p_X2_put fsheet1 x2 x3) <| fun (r17, fsheet1_17) =>
       if r17 = 0 then
         (some ((nI 1), fsheet0, fsheet1_17, fsheet2, fsheet3))
       else
         (some (((-10 : Int32) - r17), fsheet0, fsheet1_17, fsheet2, fsheet3)))
     else if x1 = nI 2 then
       (Option.bind (p_X2_put fsheet2 x2 x3) <| fun (r17, fsheet2_17) =>
       if r17 = 0 then
         (some ((nI 1), fsheet0, fsheet1, fsheet2_17, fsheet3))
       else
         (some (((-10 : Int32) - r17), fsheet0, fsheet1, fsheet2_17, fsheet3)))
     else if x1 = nI 3 then
       (Option.bind (p_X2_put fsheet3 x2 x3) <| fun (r17, fsheet3_17) =>
       if r17 = 0 then
         (some ((nI 1), fsheet0, fsheet1, fsheet2, fsheet3_17))
       else
         (some (((-10 : Int32) - r17), fsheet0, fsheet1, fsheet2, fsheet3_17)))
     else none)
set_option maxHeartbeats 4000000 in
set_option maxRecDepth 100000 in
theorem c_X6_lay (l : Launch) (G : Gt) (ad : Nat → Nat) (ado : Nat → Nat → Nat) (f : Mem) (fsheet0 : Mem) (fsheet1 : Mem) (fsheet2 : Mem) (fsheet3 : Mem) (x1 : Int32) (x2 : Int32) (x3 : Int32) (r : Int32) (fsheet0z : Mem) (fsheet1z : Mem) (fsheet2z : Mem) (fsheet3z : Mem) (hf : p_X6_lay f fsheet0 fsheet1 fsheet2 fsheet3 x1 x2 x3 = some (r, fsheet0z, fsheet1z, fsheet2z, fsheet3z)) (sz : Nat) : Met l yX6_lay wsX6_lay ({ frames := 3, cells := 0, slots := 0, locals := 56 }) (Pc0 G sz [.ref (ad 0), .int x1, .int x2, .int x3] (wX6 G ad ado f ++ (wX2 G (ado 11) fsheet0 ++ (wX2 G (ado 12) fsheet1 ++ (wX2 G (ado 13) fsheet2 ++ (wX2 G (ado 14) fsheet3)))))) (Qi0 G (va_A (wX6 G ad ado f ++ (wX2 G (ado 11) fsheet0 ++ (wX2 G (ado 12) fsheet1 ++ (wX2 G (ado 13) fsheet2 ++ (wX2 G (ado 14) fsheet3))))) sz) r (wX6 G ad ado f ++ (wX2 G (ado 11) fsheet0z ++ (wX2 G (ado 12) fsheet1z ++ (wX2 G (ado 13) fsheet2z ++ (wX2 G (ado 14) fsheet3z)))))) 0 0 (va_A (wX6 G ad ado f ++ (wX2 G (ado 11) fsheet0 ++ (wX2 G (ado 12) fsheet1 ++ (wX2 G (ado 13) fsheet2 ++ (wX2 G (ado 14) fsheet3))))) sz) := by
  refine metP (Qf := fun A => Qi0 G A r (wX6 G ad ado f ++ (wX2 G (ado 11) fsheet0z ++ (wX2 G (ado 12) fsheet1z ++ (wX2 G (ado 13) fsheet2z ++ (wX2 G (ado 14) fsheet3z)))))) cX6_lay 5 (some .int) (by decide) rfl (Nat.le_of_ble_eq_true rfl) ?_
  intro p e s m below meth c A ls hC hr hlocks hin hE hA hsz hP hD hS hl
  generalize hargs : ([.ref (ad 0), .int x1, .int x2, .int x3] : List Value).toArray = args at hC ⊢
  obtain ⟨hx, hb, hml, hown, hts⟩ := id hC
  have hT : va_K G.1 vwCl (tyL G) s := hE.1
  have hRet : ∀ (r9 : Int32) (fsheet09 : Mem) (fsheet19 : Mem) (fsheet29 : Mem) (fsheet39 : Mem) (H : Heap) (locs : List Loc) (ls : Array Slot) (pc : Nat) (hK9 : (r9, fsheet09, fsheet19, fsheet29, fsheet39) = (r, fsheet0z, fsheet1z, fsheet2z, fsheet3z)) (hdg : decode cX6_lay pc = .ok (.ireturn, 1)), va_P G.1 vwCl (wX6 G ad ado f ++ (wX2 G (ado 11) fsheet09 ++ (wX2 G (ado 12) fsheet19 ++ (wX2 G (ado 13) fsheet29 ++ (wX2 G (ado 14) fsheet39))))) H → va_D A (wX6 G ad ado f ++ (wX2 G (ado 11) fsheet09 ++ (wX2 G (ado 12) fsheet19 ++ (wX2 G (ado 13) fsheet29 ++ (wX2 G (ado 14) fsheet39))))) → va_S A s.heap H locs → W p l e ({ frames := 3, cells := 0, slots := 0, locals := 56 }) s m args below meth c H locs 0 0 (MQ below (Qi0 G A r (wX6 G ad ado f ++ (wX2 G (ado 11) fsheet0z ++ (wX2 G (ado 12) fsheet1z ++ (wX2 G (ado 13) fsheet2z ++ (wX2 G (ado 14) fsheet3z)))))) args s 0 0 A) (F0 m pc ls [.int r9]) := by
    intro r9 fsheet09 fsheet19 fsheet29 fsheet39 H locs ls pc hK9 hdg hP hD hS
    cases hK9
    exact W.iret hx hb hr (fun t ht hW => ⟨⟨r, (), rfl, rfl, by rw [ht]; exact hP, hD⟩, hS.F ht⟩) hS.2.2 hdg hlocks
  generalize MQ below (Qi0 G A r (wX6 G ad ado f ++ (wX2 G (ado 11) fsheet0z ++ (wX2 G (ado 12) fsheet1z ++ (wX2 G (ado 13) fsheet2z ++ (wX2 G (ado 14) fsheet3z)))))) args s 0 0 A = Q at hRet ⊢
  have lk61 := hts (.fieldLink RX6 61 "FeatherShares" "sheets" "[LFeatherShares$Sheet;") (by decide +kernel)
  have inX6 : ∀ w ∈ u_ws RX6 TX6 11, w ∈ wsX6_lay := by decide +kernel
  have hl : lv_has ls 5 [(0, .ref (ad 0)), (1, .int x1), (2, .int x2), (3, .int x3)] := hl
  have hK0 : (r, fsheet0z, fsheet1z, fsheet2z, fsheet3z) = (r, fsheet0z, fsheet1z, fsheet2z, fsheet3z) := rfl
  obtain ⟨res, hres, hK⟩ : ∃ res, p_X6_lay f fsheet0 fsheet1 fsheet2 fsheet3 x1 x2 x3 = some res ∧ res = (r, fsheet0z, fsheet1z, fsheet2z, fsheet3z) := ⟨_, hf, rfl⟩
  clear hf
  have hf := hres
  clear hres
  unfold p_X6_lay at hf
  refine lv_iload_n hx hb dX6_lay_0 rfl (lv_at hl 1 rfl) ?_
  obtain ⟨r1, hc1, hf⟩ := bd_e hf
  refine cl_z_ro (Wd := (wX6 G ad ado f ++ (wX2 G (ado 11) fsheet0 ++ (wX2 G (ado 12) fsheet1 ++ (wX2 G (ado 13) fsheet2 ++ (wX2 G (ado 14) fsheet3)))))) (Wc := ([] : va_W)) [] rfl (va_runS (As := [.int x1]) (rest := []) hC (c_X6_isSheet l G x1 r1 hc1 _) (va_cwS 1 hts gX6_lay_X6_isSheet rfl rfl rfl (by decide +kernel) ⟨Nat.le_of_ble_eq_true rfl, Nat.le_of_ble_eq_true rfl⟩) ⟨Pc0_blind, fun U hU hW => Pc0_at (Wd := ([] : va_W)) hE (hP.subm [] rfl) (hD.sub [] (by decide) rfl) hU hW⟩ rfl rfl hl.1 rfl (lv_room (Nat.le_of_ble_eq_true rfl)) dX6_lay_1 ⟨Nat.zero_le _, Nat.zero_le _⟩) hS hA hP hD (fun H locs hn1 hP hD hS => ?_)
  refine lv_if_ne (tgt := 9) hx hb dX6_lay_4 (by decide) (fun hc => ?_) (fun hc => ?_)
  · have hf := if_f hf hc
    refine lv_aload_n hx hb dX6_lay_9 rfl (lv_at hl 0 rfl) ?_
    refine va_get (C := RX6) (T := TX6) (N := 11) (ci := 6) (v := .ref (ad 3)) hx hb hts inX6 hown hT hP 0 rfl rfl 9 (Nat.le_of_ble_eq_true rfl) lk61 (fun _ h => h) rfl dX6_lay_10 ?_
    refine lv_iload_n hx hb dX6_lay_13 rfl (lv_at hl 1 rfl) ?_
    by_cases hc14 : x1 = nI 0
    · rw [if_pos hc14] at hf
      refine va_aldq hx hb hT hP 3 3 rfl rfl (by rw [hc14]; exact vp_in_nI (by decide) (by decide)) dX6_lay_14 ?_
      refine W.eq (g2 := F0 m 15 ls [.ref ((ado 11) 0)]) (by rw [hc14]; rfl) ?_
      refine lv_iload_n hx hb dX6_lay_15 rfl (lv_at hl 2 rfl) ?_
      refine lv_iload_n hx hb dX6_lay_16 rfl (lv_at hl 3 rfl) ?_
      obtain ⟨⟨r17, fsheet0_17⟩, hc17, hf⟩ := bd_e hf
      try dsimp only at hf
      refine cl_i_up (Wd := (wX6 G ad ado f ++ (wX2 G (ado 11) fsheet0 ++ (wX2 G (ado 12) fsheet1 ++ (wX2 G (ado 13) fsheet2 ++ (wX2 G (ado 14) fsheet3)))))) (Wc := (wX2 G (ado 11) fsheet0)) (W' := (wX2 G (ado 11) fsheet0_17)) (W2 := (wX6 G ad ado f ++ (wX2 G (ado 11) fsheet0_17 ++ (wX2 G (ado 12) fsheet1 ++ (wX2 G (ado 13) fsheet2 ++ (wX2 G (ado 14) fsheet3)))))) (Wr := (wX6 G ad ado f ++ (wX2 G (ado 12) fsheet1 ++ (wX2 G (ado 13) fsheet2 ++ (wX2 G (ado 14) fsheet3))))) [4, 5] [0, 1, 2, 3, 6, 7, 8, 9, 10, 11] rfl rfl rfl rfl rfl rfl (va_runVN (As := [.int x2, .int x3]) (rest := []) hC (c_X2_put l G (ado 11) fsheet0 x2 x3 r17 fsheet0_17 hc17 _) ⟨va_cnB 2 hts gX6_lay_X2_put_n300 rfl rfl rfl (hE.2.2 (RX6, 300, yX2_put, "FeatherShares") (List.mem_of_getElem? (i := 34) rfl)) (hts (.initialized RX2) (by decide +kernel)) (by decide +kernel) ⟨Nat.le_of_ble_eq_true rfl, Nat.le_of_ble_eq_true rfl⟩, hts (.instanceMethod yX2_put) (by decide +kernel), hts (.selects RX2 yX2_put yX2_put) (by decide +kernel)⟩ ⟨Pc0_blind, va_recv hT hP (q0 := 4) (ci := 2) rfl rfl, fun U hU hW => Pc0_at (Wd := (wX2 G (ado 11) fsheet0)) hE (hP.subm [4, 5] rfl) (hD.sub [4, 5] (by decide) rfl) hU hW⟩ rfl rfl hl.1 rfl (lv_room (Nat.le_of_ble_eq_true rfl)) dX6_lay_17 ⟨Nat.zero_le _, Nat.zero_le _⟩) hS hA hP hD (fun H locs hP hD hS => ?_)
      refine lv_istore (lv' := [(4, .int r17), (0, .ref (ad 0)), (1, .int x1), (2, .int x2), (3, .int x3)]) hx hb dX6_lay_20 hl (by decide) rfl (fun ls hl => ?_)
      refine lv_iload hx hb dX6_lay_22 (lv_at hl 0 rfl) ?_
      refine lv_if_ne (tgt := 31) hx hb dX6_lay_24 (by decide) (fun hc => ?_) (fun hc => ?_)
      · have hf := if_f hf hc
        refine lv_bipush (v := (-10 : Int32)) hx hb dX6_lay_31 (bi_m10) ?_
        refine lv_iload hx hb dX6_lay_33 (lv_at hl 0 rfl) ?_
        refine lv_isub hx hb dX6_lay_35 ?_
        have hK9 := K0_of hf hK
        exact hRet ((-10 : Int32) - r17) fsheet0_17 fsheet1 fsheet2 fsheet3 _ _ _ _ hK9 dX6_lay_36 hP hD hS
      · have hf := if_t hf hc
        refine lv_iconst (v := (nI 1)) hx hb dX6_lay_27 (ic_1) ?_
        refine lv_goto (tgt := 36) hx hb dX6_lay_28 (by decide) ?_
        have hK9 := K0_of hf hK
        exact hRet (nI 1) fsheet0_17 fsheet1 fsheet2 fsheet3 _ _ _ _ hK9 dX6_lay_36 hP hD hS
    rw [if_neg hc14] at hf
    by_cases hc14 : x1 = nI 1
    · rw [if_pos hc14] at hf
      refine va_aldq hx hb hT hP 3 3 rfl rfl (by rw [hc14]; exact vp_in_nI (by decide) (by decide)) dX6_lay_14 ?_
      refine W.eq (g2 := F0 m 15 ls [.ref ((ado 12) 0)]) (by rw [hc14]; rfl) ?_
      refine lv_iload_n hx hb dX6_lay_15 rfl (lv_at hl 2 rfl) ?_
      refine lv_iload_n hx hb dX6_lay_16 rfl (lv_at hl 3 rfl) ?_
      obtain ⟨⟨r17, fsheet1_17⟩, hc17, hf⟩ := bd_e hf
      try dsimp only at hf
      refine cl_i_up (Wd := (wX6 G ad ado f ++ (wX2 G (ado 11) fsheet0 ++ (wX2 G (ado 12) fsheet1 ++ (wX2 G (ado 13) fsheet2 ++ (wX2 G (ado 14) fsheet3)))))) (Wc := (wX2 G (ado 12) fsheet1)) (W' := (wX2 G (ado 12) fsheet1_17)) (W2 := (wX6 G ad ado f ++ (wX2 G (ado 11) fsheet0 ++ (wX2 G (ado 12) fsheet1_17 ++ (wX2 G (ado 13) fsheet2 ++ (wX2 G (ado 14) fsheet3)))))) (Wr := (wX6 G ad ado f ++ (wX2 G (ado 11) fsheet0 ++ (wX2 G (ado 13) fsheet2 ++ (wX2 G (ado 14) fsheet3))))) [6, 7] [0, 1, 2, 3, 4, 5, 8, 9, 10, 11] rfl rfl rfl rfl rfl rfl (va_runVN (As := [.int x2, .int x3]) (rest := []) hC (c_X2_put l G (ado 12) fsheet1 x2 x3 r17 fsheet1_17 hc17 _) ⟨va_cnB 2 hts gX6_lay_X2_put_n300 rfl rfl rfl (hE.2.2 (RX6, 300, yX2_put, "FeatherShares") (List.mem_of_getElem? (i := 34) rfl)) (hts (.initialized RX2) (by decide +kernel)) (by decide +kernel) ⟨Nat.le_of_ble_eq_true rfl, Nat.le_of_ble_eq_true rfl⟩, hts (.instanceMethod yX2_put) (by decide +kernel), hts (.selects RX2 yX2_put yX2_put) (by decide +kernel)⟩ ⟨Pc0_blind, va_recv hT hP (q0 := 6) (ci := 2) rfl rfl, fun U hU hW => Pc0_at (Wd := (wX2 G (ado 12) fsheet1)) hE (hP.subm [6, 7] rfl) (hD.sub [6, 7] (by decide) rfl) hU hW⟩ rfl rfl hl.1 rfl (lv_room (Nat.le_of_ble_eq_true rfl)) dX6_lay_17 ⟨Nat.zero_le _, Nat.zero_le _⟩) hS hA hP hD (fun H locs hP hD hS => ?_)
      refine lv_istore (lv' := [(4, .int r17), (0, .ref (ad 0)), (1, .int x1), (2, .int x2), (3, .int x3)]) hx hb dX6_lay_20 hl (by decide) rfl (fun ls hl => ?_)
      refine lv_iload hx hb dX6_lay_22 (lv_at hl 0 rfl) ?_
      refine lv_if_ne (tgt := 31) hx hb dX6_lay_24 (by decide) (fun hc => ?_) (fun hc => ?_)
      · have hf := if_f hf hc
        refine lv_bipush (v := (-10 : Int32)) hx hb dX6_lay_31 (bi_m10) ?_
        refine lv_iload hx hb dX6_lay_33 (lv_at hl 0 rfl) ?_
        refine lv_isub hx hb dX6_lay_35 ?_
        have hK9 := K0_of hf hK
        exact hRet ((-10 : Int32) - r17) fsheet0 fsheet1_17 fsheet2 fsheet3 _ _ _ _ hK9 dX6_lay_36 hP hD hS
      · have hf := if_t hf hc
        refine lv_iconst (v := (nI 1)) hx hb dX6_lay_27 (ic_1) ?_
        refine lv_goto (tgt := 36) hx hb dX6_lay_28 (by decide) ?_
        have hK9 := K0_of hf hK
        exact hRet (nI 1) fsheet0 fsheet1_17 fsheet2 fsheet3 _ _ _ _ hK9 dX6_lay_36 hP hD hS
    rw [if_neg hc14] at hf
    by_cases hc14 : x1 = nI 2
    · rw [if_pos hc14] at hf
      refine va_aldq hx hb hT hP 3 3 rfl rfl (by rw [hc14]; exact vp_in_nI (by decide) (by decide)) dX6_lay_14 ?_
      refine W.eq (g2 := F0 m 15 ls [.ref ((ado 13) 0)]) (by rw [hc14]; rfl) ?_
      refine lv_iload_n hx hb dX6_lay_15 rfl (lv_at hl 2 rfl) ?_
      refine lv_iload_n hx hb dX6_lay_16 rfl (lv_at hl 3 rfl) ?_
      obtain ⟨⟨r17, fsheet2_17⟩, hc17, hf⟩ := bd_e hf
      try dsimp only at hf
      refine cl_i_up (Wd := (wX6 G ad ado f ++ (wX2 G (ado 11) fsheet0 ++ (wX2 G (ado 12) fsheet1 ++ (wX2 G (ado 13) fsheet2 ++ (wX2 G (ado 14) fsheet3)))))) (Wc := (wX2 G (ado 13) fsheet2)) (W' := (wX2 G (ado 13) fsheet2_17)) (W2 := (wX6 G ad ado f ++ (wX2 G (ado 11) fsheet0 ++ (wX2 G (ado 12) fsheet1 ++ (wX2 G (ado 13) fsheet2_17 ++ (wX2 G (ado 14) fsheet3)))))) (Wr := (wX6 G ad ado f ++ (wX2 G (ado 11) fsheet0 ++ (wX2 G (ado 12) fsheet1 ++ (wX2 G (ado 14) fsheet3))))) [8, 9] [0, 1, 2, 3, 4, 5, 6, 7, 10, 11] rfl rfl rfl rfl rfl rfl (va_runVN (As := [.int x2, .int x3]) (rest := []) hC (c_X2_put l G (ado 13) fsheet2 x2 x3 r17 fsheet2_17 hc17 _) ⟨va_cnB 2 hts gX6_lay_X2_put_n300 rfl rfl rfl (hE.2.2 (RX6, 300, yX2_put, "FeatherShares") (List.mem_of_getElem? (i := 34) rfl)) (hts (.initialized RX2) (by decide +kernel)) (by decide +kernel) ⟨Nat.le_of_ble_eq_true rfl, Nat.le_of_ble_eq_true rfl⟩, hts (.instanceMethod yX2_put) (by decide +kernel), hts (.selects RX2 yX2_put yX2_put) (by decide +kernel)⟩ ⟨Pc0_blind, va_recv hT hP (q0 := 8) (ci := 2) rfl rfl, fun U hU hW => Pc0_at (Wd := (wX2 G (ado 13) fsheet2)) hE (hP.subm [8, 9] rfl) (hD.sub [8, 9] (by decide) rfl) hU hW⟩ rfl rfl hl.1 rfl (lv_room (Nat.le_of_ble_eq_true rfl)) dX6_lay_17 ⟨Nat.zero_le _, Nat.zero_le _⟩) hS hA hP hD (fun H locs hP hD hS => ?_)
      refine lv_istore (lv' := [(4, .int r17), (0, .ref (ad 0)), (1, .int x1), (2, .int x2), (3, .int x3)]) hx hb dX6_lay_20 hl (by decide) rfl (fun ls hl => ?_)
      refine lv_iload hx hb dX6_lay_22 (lv_at hl 0 rfl) ?_
      refine lv_if_ne (tgt := 31) hx hb dX6_lay_24 (by decide) (fun hc => ?_) (fun hc => ?_)
      · have hf := if_f hf hc
        refine lv_bipush (v := (-10 : Int32)) hx hb dX6_lay_31 (bi_m10) ?_
        refine lv_iload hx hb dX6_lay_33 (lv_at hl 0 rfl) ?_
        refine lv_isub hx hb dX6_lay_35 ?_
        have hK9 := K0_of hf hK
        exact hRet ((-10 : Int32) - r17) fsheet0 fsheet1 fsheet2_17 fsheet3 _ _ _ _ hK9 dX6_lay_36 hP hD hS
      · have hf := if_t hf hc
        refine lv_iconst (v := (nI 1)) hx hb dX6_lay_27 (ic_1) ?_
        refine lv_goto (tgt := 36) hx hb dX6_lay_28 (by decide) ?_
        have hK9 := K0_of hf hK
        exact hRet (nI 1) fsheet0 fsheet1 fsheet2_17 fsheet3 _ _ _ _ hK9 dX6_lay_36 hP hD hS
    rw [if_neg hc14] at hf
    by_cases hc14 : x1 = nI 3
    · rw [if_pos hc14] at hf
      refine va_aldq hx hb hT hP 3 3 rfl rfl (by rw [hc14]; exact vp_in_nI (by decide) (by decide)) dX6_lay_14 ?_
      refine W.eq (g2 := F0 m 15 ls [.ref ((ado 14) 0)]) (by rw [hc14]; rfl) ?_
      refine lv_iload_n hx hb dX6_lay_15 rfl (lv_at hl 2 rfl) ?_
      refine lv_iload_n hx hb dX6_lay_16 rfl (lv_at hl 3 rfl) ?_
      obtain ⟨⟨r17, fsheet3_17⟩, hc17, hf⟩ := bd_e hf
      try dsimp only at hf
      refine cl_i_up (Wd := (wX6 G ad ado f ++ (wX2 G (ado 11) fsheet0 ++ (wX2 G (ado 12) fsheet1 ++ (wX2 G (ado 13) fsheet2 ++ (wX2 G (ado 14) fsheet3)))))) (Wc := (wX2 G (ado 14) fsheet3)) (W' := (wX2 G (ado 14) fsheet3_17)) (W2 := (wX6 G ad ado f ++ (wX2 G (ado 11) fsheet0 ++ (wX2 G (ado 12) fsheet1 ++ (wX2 G (ado 13) fsheet2 ++ (wX2 G (ado 14) fsheet3_17)))))) (Wr := (wX6 G ad ado f ++ (wX2 G (ado 11) fsheet0 ++ (wX2 G (ado 12) fsheet1 ++ (wX2 G (ado 13) fsheet2))))) [10, 11] [0, 1, 2, 3, 4, 5, 6, 7, 8, 9] rfl rfl rfl rfl rfl rfl (va_runVN (As := [.int x2, .int x3]) (rest := []) hC (c_X2_put l G (ado 14) fsheet3 x2 x3 r17 fsheet3_17 hc17 _) ⟨va_cnB 2 hts gX6_lay_X2_put_n300 rfl rfl rfl (hE.2.2 (RX6, 300, yX2_put, "FeatherShares") (List.mem_of_getElem? (i := 34) rfl)) (hts (.initialized RX2) (by decide +kernel)) (by decide +kernel) ⟨Nat.le_of_ble_eq_true rfl, Nat.le_of_ble_eq_true rfl⟩, hts (.instanceMethod yX2_put) (by decide +kernel), hts (.selects RX2 yX2_put yX2_put) (by decide +kernel)⟩ ⟨Pc0_blind, va_recv hT hP (q0 := 10) (ci := 2) rfl rfl, fun U hU hW => Pc0_at (Wd := (wX2 G (ado 14) fsheet3)) hE (hP.subm [10, 11] rfl) (hD.sub [10, 11] (by decide) rfl) hU hW⟩ rfl rfl hl.1 rfl (lv_room (Nat.le_of_ble_eq_true rfl)) dX6_lay_17 ⟨Nat.zero_le _, Nat.zero_le _⟩) hS hA hP hD (fun H locs hP hD hS => ?_)
      refine lv_istore (lv' := [(4, .int r17), (0, .ref (ad 0)), (1, .int x1), (2, .int x2), (3, .int x3)]) hx hb dX6_lay_20 hl (by decide) rfl (fun ls hl => ?_)
      refine lv_iload hx hb dX6_lay_22 (lv_at hl 0 rfl) ?_
      refine lv_if_ne (tgt := 31) hx hb dX6_lay_24 (by decide) (fun hc => ?_) (fun hc => ?_)
      · have hf := if_f hf hc
        refine lv_bipush (v := (-10 : Int32)) hx hb dX6_lay_31 (bi_m10) ?_
        refine lv_iload hx hb dX6_lay_33 (lv_at hl 0 rfl) ?_
        refine lv_isub hx hb dX6_lay_35 ?_
        have hK9 := K0_of hf hK
        exact hRet ((-10 : Int32) - r17) fsheet0 fsheet1 fsheet2 fsheet3_17 _ _ _ _ hK9 dX6_lay_36 hP hD hS
      · have hf := if_t hf hc
        refine lv_iconst (v := (nI 1)) hx hb dX6_lay_27 (ic_1) ?_
        refine lv_goto (tgt := 36) hx hb dX6_lay_28 (by decide) ?_
        have hK9 := K0_of hf hK
        exact hRet (nI 1) fsheet0 fsheet1 fsheet2 fsheet3_17 _ _ _ _ hK9 dX6_lay_36 hP hD hS
    rw [if_neg hc14] at hf
    cases hf
  · have hf := if_t hf hc
    refine lv_iconst (v := (-1 : Int32)) hx hb dX6_lay_7 (ic_m1) ?_
    have hK9 := K0_of hf hK
    exact hRet (-1 : Int32) fsheet0 fsheet1 fsheet2 fsheet3 _ _ _ _ hK9 dX6_lay_8 hP hD hS
noncomputable def p_X6_read_B119 (f : Mem) (fnow : Mem) (ftrial : Mem) (fsheet0 : Mem) (fsheet1 : Mem) (fsheet2 : Mem) (fsheet3 : Mem) (x6 : Int32) (x7 : Int32) : Option (Int32 × Mem × Mem × Mem) :=
  Option.bind (p_X0_copyFrom fnow ftrial) <| fun fnow_127 =>
  some (x7, (mset 0 1 x6 f), fnow_127, ftrial)
noncomputable def p_X6_read_L55_0 (f : Mem) (fnow : Mem) (fsheet0 : Mem) (fsheet1 : Mem) (fsheet2 : Mem) (fsheet3 : Mem) (x2 : Int32) (x3 : Int32) (x4 : Int32) (z : Int32 × Int32 × Int32 × Mem) : Option ((Int32 × Int32 × Int32 × Mem) ⊕ ((Int32 × Int32 × Mem) ⊕ (Int32 × Mem × Mem × Mem))) :=
  match z with
  | (x6, x7, x8, ftrial_) =>
    if x4 ≤ x8 then
      (some (Sum.inr (Sum.inl (x6, x7, ftrial_))))
    else
      (if x6 = 0 then
         (Option.bind (p_X2_faultOfTrade fsheet0 x2 (x3 + ((nI 4) * x8))) <| fun r80 =>
          if r80 = 0 then
            (Option.bind (p_X2_tradeOn fsheet0 ftrial_ (x3 + ((nI 4) * x8))) <| fun (r98, ftrial_98) =>
             if r98 = 0 then
               (some (Sum.inr (Sum.inr (((-20 : Int32) - x8), f, fnow, ftrial_98))))
             else
               (some (Sum.inl (r80, (x7 + nI 1), (x8 + nI 1), ftrial_98))))
          else
            (some (Sum.inl (r80, x7, (x8 + nI 1), ftrial_))))
       else
         (some (Sum.inr (Sum.inl (x6, x7, ftrial_)))))
noncomputable def p_X6_read_L55_1 (f : Mem) (fnow : Mem) (fsheet0 : Mem) (fsheet1 : Mem) (fsheet2 : Mem) (fsheet3 : Mem) (x2 : Int32) (x3 : Int32) (x4 : Int32) (z : Int32 × Int32 × Int32 × Mem) : Option ((Int32 × Int32 × Int32 × Mem) ⊕ ((Int32 × Int32 × Mem) ⊕ (Int32 × Mem × Mem × Mem))) :=
  match z with
  | (x6, x7, x8, ftrial_) =>
    if x4 ≤ x8 then
      (some (Sum.inr (Sum.inl (x6, x7, ftrial_))))
    else
      (if x6 = 0 then
         (Option.bind (p_X2_faultOfTrade fsheet1 x2 (x3 + ((nI 4) * x8))) <| fun r80 =>
          if r80 = 0 then
            (Option.bind (p_X2_tradeOn fsheet1 ftrial_ (x3 + ((nI 4) * x8))) <| fun (r98, ftrial_98) =>
             if r98 = 0 then
               (some (Sum.inr (Sum.inr (((-20 : Int32) - x8), f, fnow, ftrial_98))))
             else
               (some (Sum.inl (r80, (x7 + nI 1), (x8 + nI 1), ftrial_98))))
          else
            (some (Sum.inl (r80, x7, (x8 + nI 1), ftrial_))))
       else
         (some (Sum.inr (Sum.inl (x6, x7, ftrial_)))))
noncomputable def p_X6_read_L55_2 (f : Mem) (fnow : Mem) (fsheet0 : Mem) (fsheet1 : Mem) (fsheet2 : Mem) (fsheet3 : Mem) (x2 : Int32) (x3 : Int32) (x4 : Int32) (z : Int32 × Int32 × Int32 × Mem) : Option ((Int32 × Int32 × Int32 × Mem) ⊕ ((Int32 × Int32 × Mem) ⊕ (Int32 × Mem × Mem × Mem))) :=
  match z with
  | (x6, x7, x8, ftrial_) =>
    if x4 ≤ x8 then
      (some (Sum.inr (Sum.inl (x6, x7, ftrial_))))
    else
      (if x6 = 0 then
         (Option.bind (p_X2_faultOfTrade fsheet2 x2 (x3 + ((nI 4) * x8))) <| fun r80 =>
          if r80 = 0 then
            (Option.bind (p_X2_tradeOn fsheet2 ftrial_ (x3 + ((nI 4) * x8))) <| fun (r98, ftrial_98) =>
             if r98 = 0 then
               (some (Sum.inr (Sum.inr (((-20 : Int32) - x8), f, fnow, ftrial_98))))
             else
               (some (Sum.inl (r80, (x7 + nI 1), (x8 + nI 1), ftrial_98))))
          else
            (some (Sum.inl (r80, x7, (x8 + nI 1), ftrial_))))
       else
         (some (Sum.inr (Sum.inl (x6, x7, ftrial_)))))
noncomputable def p_X6_read_L55_3 (f : Mem) (fnow : Mem) (fsheet0 : Mem) (fsheet1 : Mem) (fsheet2 : Mem) (fsheet3 : Mem) (x2 : Int32) (x3 : Int32) (x4 : Int32) (z : Int32 × Int32 × Int32 × Mem) : Option ((Int32 × Int32 × Int32 × Mem) ⊕ ((Int32 × Int32 × Mem) ⊕ (Int32 × Mem × Mem × Mem))) :=
  match z with
  | (x6, x7, x8, ftrial_) =>
    if x4 ≤ x8 then
      (some (Sum.inr (Sum.inl (x6, x7, ftrial_))))
    else
      (if x6 = 0 then
         (Option.bind (p_X2_faultOfTrade fsheet3 x2 (x3 + ((nI 4) * x8))) <| fun r80 =>
          if r80 = 0 then
            (Option.bind (p_X2_tradeOn fsheet3 ftrial_ (x3 + ((nI 4) * x8))) <| fun (r98, ftrial_98) =>
             if r98 = 0 then
               (some (Sum.inr (Sum.inr (((-20 : Int32) - x8), f, fnow, ftrial_98))))
             else
               (some (Sum.inl (r80, (x7 + nI 1), (x8 + nI 1), ftrial_98))))
          else
            (some (Sum.inl (r80, x7, (x8 + nI 1), ftrial_))))
       else
         (some (Sum.inr (Sum.inl (x6, x7, ftrial_)))))
noncomputable def p_X6_read (f : Mem) (fnow : Mem) (ftrial : Mem) (fsheet0 : Mem) (fsheet1 : Mem) (fsheet2 : Mem) (fsheet3 : Mem) (x1 : Int32) (x2 : Int32) (x3 : Int32) (x4 : Int32) : Option (Int32 × Mem × Mem × Mem) :=
  Option.bind (p_X6_isSheet x1) <| fun r1 =>
  if r1 = 0 then
    (some ((-1 : Int32), f, fnow, ftrial))
  else
    (Option.bind (p_X6_isLane x2) <| fun r8 =>
     if r8 = 0 then
       (some ((-1 : Int32), f, fnow, ftrial))
     else
       (Option.bind (p_X6_isWithin x4 (nI 0) (nI 10)) <| fun r19 =>
        if r19 = 0 then
          (some ((-1 : Int32), f, fnow, ftrial))
        else
          (if x1 = nI 0 then
             (Option.bind (p_X0_copyFrom ftrial fnow) <| fun ftrial_43 =>
             Option.bind (lp (p_X6_read_L55_0 f fnow fsheet0 fsheet1 fsheet2 fsheet3 x2 x3 x4) ((nI 0), (nI 0), (nI 0), ftrial_43)) <| Sum.elim (fun (y6_55, y7_55, ftrial_55) =>
               p_X6_read_B119 f fnow ftrial_55 fsheet0 fsheet1 fsheet2 fsheet3 y6_55 y7_55) some)
           else if x1 = nI 1 then
             (Option.bind (p_X0_copyFrom ftrial fnow) <| fun ftrial_43 =>
             Option.bind (lp (p_X6_read_L55_1 f fnow fsheet0 fsheet1 fsheet2 fsheet3 x2 x3 x4) ((nI 0), (nI 0), (nI 0), ftrial_43)) <| Sum.elim (fun (y6_55, y7_55, ftrial_55) =>
               p_X6_read_B119 f fnow ftrial_55 fsheet0 fsheet1 fsheet2 fsheet3 y6_55 y7_55) some)
           else if x1 = nI 2 then
             (Option.bind (p_X0_copyFrom ftrial fnow) <| fun ftrial_43 =>
             Option.bind (lp (p_X6_read_L55_2 f fnow fsheet0 fsheet1 fsheet2 fsheet3 x2 x3 x4) ((nI 0), (nI 0), (nI 0), ftrial_43)) <| Sum.elim (fun (y6_55, y7_55, ftrial_55) =>
               p_X6_read_B119 f fnow ftrial_55 fsheet0 fsheet1 fsheet2 fsheet3 y6_55 y7_55) some)
           else if x1 = nI 3 then
             (Option.bind (p_X0_copyFrom ftrial fnow) <| fun ftrial_43 =>
             Option.bind (lp (p_X6_read_L55_3 f fnow fsheet0 fsheet1 fsheet2 fsheet3 x2 x3 x4) ((nI 0), (nI 0), (nI 0), ftrial_43)) <| Sum.elim (fun (y6_55, y7_55, ftrial_55) =>
               p_X6_read_B119 f fnow ftrial_55 fsheet0 fsheet1 fsheet2 fsheet3 y6_55 y7_55) some)
           else none)))
set_option maxHeartbeats 4000000 in
set_option maxRecDepth 100000 in
theorem c_X6_read (l : Launch) (G : Gt) (ad : Nat → Nat) (ado : Nat → Nat → Nat) (f : Mem) (fnow : Mem) (ftrial : Mem) (fsheet0 : Mem) (fsheet1 : Mem) (fsheet2 : Mem) (fsheet3 : Mem) (x1 : Int32) (x2 : Int32) (x3 : Int32) (x4 : Int32) (r : Int32) (fz : Mem) (fnowz : Mem) (ftrialz : Mem) (hf : p_X6_read f fnow ftrial fsheet0 fsheet1 fsheet2 fsheet3 x1 x2 x3 x4 = some (r, fz, fnowz, ftrialz)) (sz : Nat) : Met l yX6_read wsX6_read ({ frames := 6, cells := 0, slots := 0, locals := 129 }) (Pc0 G sz [.ref (ad 0), .int x1, .int x2, .int x3, .int x4] (wX6 G ad ado f ++ (wX0 G (ado 1) fnow ++ (wX0 G (ado 2) ftrial ++ (wX2 G (ado 11) fsheet0 ++ (wX2 G (ado 12) fsheet1 ++ (wX2 G (ado 13) fsheet2 ++ (wX2 G (ado 14) fsheet3)))))))) (Qi0 G (va_A (wX6 G ad ado f ++ (wX0 G (ado 1) fnow ++ (wX0 G (ado 2) ftrial ++ (wX2 G (ado 11) fsheet0 ++ (wX2 G (ado 12) fsheet1 ++ (wX2 G (ado 13) fsheet2 ++ (wX2 G (ado 14) fsheet3))))))) sz) r (wX6 G ad ado fz ++ (wX0 G (ado 1) fnowz ++ (wX0 G (ado 2) ftrialz ++ (wX2 G (ado 11) fsheet0 ++ (wX2 G (ado 12) fsheet1 ++ (wX2 G (ado 13) fsheet2 ++ (wX2 G (ado 14) fsheet3)))))))) 0 0 (va_A (wX6 G ad ado f ++ (wX0 G (ado 1) fnow ++ (wX0 G (ado 2) ftrial ++ (wX2 G (ado 11) fsheet0 ++ (wX2 G (ado 12) fsheet1 ++ (wX2 G (ado 13) fsheet2 ++ (wX2 G (ado 14) fsheet3))))))) sz) := by
  refine metP (Qf := fun A => Qi0 G A r (wX6 G ad ado fz ++ (wX0 G (ado 1) fnowz ++ (wX0 G (ado 2) ftrialz ++ (wX2 G (ado 11) fsheet0 ++ (wX2 G (ado 12) fsheet1 ++ (wX2 G (ado 13) fsheet2 ++ (wX2 G (ado 14) fsheet3)))))))) cX6_read 10 (some .int) (by decide) rfl (Nat.le_of_ble_eq_true rfl) ?_
  intro p e s m below meth c A ls hC hr hlocks hin hE hA hsz hP hD hS hl
  generalize hargs : ([.ref (ad 0), .int x1, .int x2, .int x3, .int x4] : List Value).toArray = args at hC ⊢
  obtain ⟨hx, hb, hml, hown, hts⟩ := id hC
  have hT : va_K G.1 vwCl (tyL G) s := hE.1
  have hRet : ∀ (r9 : Int32) (f9 : Mem) (fnow9 : Mem) (ftrial9 : Mem) (H : Heap) (locs : List Loc) (ls : Array Slot) (pc : Nat) (hK9 : (r9, f9, fnow9, ftrial9) = (r, fz, fnowz, ftrialz)) (hdg : decode cX6_read pc = .ok (.ireturn, 1)), va_P G.1 vwCl (wX6 G ad ado f9 ++ (wX0 G (ado 1) fnow9 ++ (wX0 G (ado 2) ftrial9 ++ (wX2 G (ado 11) fsheet0 ++ (wX2 G (ado 12) fsheet1 ++ (wX2 G (ado 13) fsheet2 ++ (wX2 G (ado 14) fsheet3))))))) H → va_D A (wX6 G ad ado f9 ++ (wX0 G (ado 1) fnow9 ++ (wX0 G (ado 2) ftrial9 ++ (wX2 G (ado 11) fsheet0 ++ (wX2 G (ado 12) fsheet1 ++ (wX2 G (ado 13) fsheet2 ++ (wX2 G (ado 14) fsheet3))))))) → va_S A s.heap H locs → W p l e ({ frames := 6, cells := 0, slots := 0, locals := 129 }) s m args below meth c H locs 0 0 (MQ below (Qi0 G A r (wX6 G ad ado fz ++ (wX0 G (ado 1) fnowz ++ (wX0 G (ado 2) ftrialz ++ (wX2 G (ado 11) fsheet0 ++ (wX2 G (ado 12) fsheet1 ++ (wX2 G (ado 13) fsheet2 ++ (wX2 G (ado 14) fsheet3)))))))) args s 0 0 A) (F0 m pc ls [.int r9]) := by
    intro r9 f9 fnow9 ftrial9 H locs ls pc hK9 hdg hP hD hS
    cases hK9
    exact W.iret hx hb hr (fun t ht hW => ⟨⟨r, (), rfl, rfl, by rw [ht]; exact hP, hD⟩, hS.F ht⟩) hS.2.2 hdg hlocks
  generalize MQ below (Qi0 G A r (wX6 G ad ado fz ++ (wX0 G (ado 1) fnowz ++ (wX0 G (ado 2) ftrialz ++ (wX2 G (ado 11) fsheet0 ++ (wX2 G (ado 12) fsheet1 ++ (wX2 G (ado 13) fsheet2 ++ (wX2 G (ado 14) fsheet3)))))))) args s 0 0 A = Q at hRet ⊢
  have lk12 := hts (.fieldLink RX6 12 "FeatherShares" "now" "LFeatherShares$Flock;") (by decide +kernel)
  have inX6 : ∀ w ∈ u_ws RX6 TX6 11, w ∈ wsX6_read := by decide +kernel
  have lk16 := hts (.fieldLink RX6 16 "FeatherShares" "trial" "LFeatherShares$Flock;") (by decide +kernel)
  have lk65 := hts (.fieldLink RX6 65 "FeatherShares" "faultOfRead" "I") (by decide +kernel)
  have lk61 := hts (.fieldLink RX6 61 "FeatherShares" "sheets" "[LFeatherShares$Sheet;") (by decide +kernel)
  have hl : lv_has ls 10 [(0, .ref (ad 0)), (1, .int x1), (2, .int x2), (3, .int x3), (4, .int x4)] := hl
  have hK0 : (r, fz, fnowz, ftrialz) = (r, fz, fnowz, ftrialz) := rfl
  have hB119 : ∀ (f : Mem) (fnow : Mem) (ftrial : Mem) (x6 : Int32) (x7 : Int32) (res : Int32 × Mem × Mem × Mem) (hf : p_X6_read_B119 f fnow ftrial fsheet0 fsheet1 fsheet2 fsheet3 x6 x7 = some res) (hK : res = (r, fz, fnowz, ftrialz)), ∀ (H : Heap) (locs : List Loc) (ls : Array Slot), va_P G.1 vwCl (wX6 G ad ado f ++ (wX0 G (ado 1) fnow ++ (wX0 G (ado 2) ftrial ++ (wX2 G (ado 11) fsheet0 ++ (wX2 G (ado 12) fsheet1 ++ (wX2 G (ado 13) fsheet2 ++ (wX2 G (ado 14) fsheet3))))))) H → va_D A (wX6 G ad ado f ++ (wX0 G (ado 1) fnow ++ (wX0 G (ado 2) ftrial ++ (wX2 G (ado 11) fsheet0 ++ (wX2 G (ado 12) fsheet1 ++ (wX2 G (ado 13) fsheet2 ++ (wX2 G (ado 14) fsheet3))))))) → va_S A s.heap H locs → lv_has ls 10 [(0, .ref (ad 0)), (6, .int x6), (7, .int x7)] → W p l e ({ frames := 6, cells := 0, slots := 0, locals := 129 }) s m args below meth c H locs 0 0 Q (F0 m 119 ls []) := by
    intro f fnow ftrial x6 x7 res hf hK H locs ls hP hD hS hl
    unfold p_X6_read_B119 at hf
    refine lv_aload_n hx hb dX6_read_119 rfl (lv_at hl 0 rfl) ?_
    refine va_get (C := RX6) (T := TX6) (N := 11) (ci := 6) (v := .ref ((ado 1) 0)) hx hb hts inX6 hown hT hP 0 rfl rfl 0 (Nat.le_of_ble_eq_true rfl) lk12 (fun _ h => h) rfl dX6_read_120 ?_
    refine lv_aload_n hx hb dX6_read_123 rfl (lv_at hl 0 rfl) ?_
    refine va_get (C := RX6) (T := TX6) (N := 11) (ci := 6) (v := .ref ((ado 2) 0)) hx hb hts inX6 hown hT hP 0 rfl rfl 1 (Nat.le_of_ble_eq_true rfl) lk16 (fun _ h => h) rfl dX6_read_124 ?_
    obtain ⟨fnow_127, hc127, hf⟩ := bd_e hf
    refine cl_v_up (Wd := (wX6 G ad ado f ++ (wX0 G (ado 1) fnow ++ (wX0 G (ado 2) ftrial ++ (wX2 G (ado 11) fsheet0 ++ (wX2 G (ado 12) fsheet1 ++ (wX2 G (ado 13) fsheet2 ++ (wX2 G (ado 14) fsheet3)))))))) (Wc := (wX0 G (ado 1) fnow ++ (wX0 G (ado 2) ftrial))) (W' := (wX0 G (ado 1) fnow_127 ++ (wX0 G (ado 2) ftrial))) (W2 := (wX6 G ad ado f ++ (wX0 G (ado 1) fnow_127 ++ (wX0 G (ado 2) ftrial ++ (wX2 G (ado 11) fsheet0 ++ (wX2 G (ado 12) fsheet1 ++ (wX2 G (ado 13) fsheet2 ++ (wX2 G (ado 14) fsheet3)))))))) (Wr := (wX6 G ad ado f ++ (wX2 G (ado 11) fsheet0 ++ (wX2 G (ado 12) fsheet1 ++ (wX2 G (ado 13) fsheet2 ++ (wX2 G (ado 14) fsheet3)))))) [4, 5, 6, 7, 8, 9, 10, 11, 12, 13, 14, 15, 16, 17, 18, 19, 20, 21, 22, 23, 24, 25] [0, 1, 2, 3, 26, 27, 28, 29, 30, 31, 32, 33] rfl rfl rfl rfl rfl rfl (va_runVN (As := [.ref ((ado 2) 0)]) (rest := []) hC (c_X0_copyFrom l G (ado 1) (ado 2) fnow ftrial fnow_127 hc127 _) ⟨va_cnB 1 hts gX6_read_X0_copyFrom_n93 rfl rfl rfl (hE.2.2 (RX6, 93, yX0_copyFrom, "FeatherShares") (List.mem_of_getElem? (i := 8) rfl)) (hts (.initialized RX0) (by decide +kernel)) (by decide +kernel) ⟨Nat.le_of_ble_eq_true rfl, Nat.le_of_ble_eq_true rfl⟩, hts (.instanceMethod yX0_copyFrom) (by decide +kernel), hts (.selects RX0 yX0_copyFrom yX0_copyFrom) (by decide +kernel)⟩ ⟨Pc0_blind, va_recv hT hP (q0 := 4) (ci := 0) rfl rfl, fun U hU hW => Pc0_at (Wd := (wX0 G (ado 1) fnow ++ (wX0 G (ado 2) ftrial))) hE (hP.subm [4, 5, 6, 7, 8, 9, 10, 11, 12, 13, 14, 15, 16, 17, 18, 19, 20, 21, 22, 23, 24, 25] rfl) (hD.sub [4, 5, 6, 7, 8, 9, 10, 11, 12, 13, 14, 15, 16, 17, 18, 19, 20, 21, 22, 23, 24, 25] (by decide) rfl) hU hW⟩ rfl rfl hl.1 rfl (lv_room (Nat.le_of_ble_eq_true rfl)) dX6_read_127 ⟨Nat.zero_le _, Nat.zero_le _⟩) hS hA hP hD (fun H locs hP hD hS => ?_)
    refine lv_aload_n hx hb dX6_read_130 rfl (lv_at hl 0 rfl) ?_
    refine lv_iload hx hb dX6_read_131 (lv_at hl 1 rfl) ?_
    refine va_put (C := RX6) (T := TX6) (N := 11) (ci := 6) (ty := .int) (v := .int x6) hx hb hts inX6 tyX6 tyX6_ok nmX6 hown hT hP hD hS 0 rfl rfl 10 (Nat.le_of_ble_eq_true rfl) lk65 (fun _ h => h) rfl (by decide +kernel) rfl rfl (Nat.le_of_ble_eq_true rfl) dX6_read_133 (fun H locs hP hD hS => ?_)
    have hP : va_P G.1 vwCl (wX6 G ad ado (mset 0 1 x6 f) ++ (wX0 G (ado 1) fnow_127 ++ (wX0 G (ado 2) ftrial ++ (wX2 G (ado 11) fsheet0 ++ (wX2 G (ado 12) fsheet1 ++ (wX2 G (ado 13) fsheet2 ++ (wX2 G (ado 14) fsheet3))))))) H := hP
    have hD : va_D A (wX6 G ad ado (mset 0 1 x6 f) ++ (wX0 G (ado 1) fnow_127 ++ (wX0 G (ado 2) ftrial ++ (wX2 G (ado 11) fsheet0 ++ (wX2 G (ado 12) fsheet1 ++ (wX2 G (ado 13) fsheet2 ++ (wX2 G (ado 14) fsheet3))))))) := hD
    refine lv_iload hx hb dX6_read_136 (lv_at hl 2 rfl) ?_
    have hK9 := K0_of hf hK
    exact hRet x7 (mset 0 1 x6 f) fnow_127 ftrial _ _ _ _ hK9 dX6_read_138 hP hD hS
  obtain ⟨res, hres, hK⟩ : ∃ res, p_X6_read f fnow ftrial fsheet0 fsheet1 fsheet2 fsheet3 x1 x2 x3 x4 = some res ∧ res = (r, fz, fnowz, ftrialz) := ⟨_, hf, rfl⟩
  clear hf
  have hf := hres
  clear hres
  unfold p_X6_read at hf
  refine lv_iload_n hx hb dX6_read_0 rfl (lv_at hl 1 rfl) ?_
  obtain ⟨r1, hc1, hf⟩ := bd_e hf
  refine cl_z_ro (Wd := (wX6 G ad ado f ++ (wX0 G (ado 1) fnow ++ (wX0 G (ado 2) ftrial ++ (wX2 G (ado 11) fsheet0 ++ (wX2 G (ado 12) fsheet1 ++ (wX2 G (ado 13) fsheet2 ++ (wX2 G (ado 14) fsheet3)))))))) (Wc := ([] : va_W)) [] rfl (va_runS (As := [.int x1]) (rest := []) hC (c_X6_isSheet l G x1 r1 hc1 _) (va_cwS 1 hts gX6_read_X6_isSheet rfl rfl rfl (by decide +kernel) ⟨Nat.le_of_ble_eq_true rfl, Nat.le_of_ble_eq_true rfl⟩) ⟨Pc0_blind, fun U hU hW => Pc0_at (Wd := ([] : va_W)) hE (hP.subm [] rfl) (hD.sub [] (by decide) rfl) hU hW⟩ rfl rfl hl.1 rfl (lv_room (Nat.le_of_ble_eq_true rfl)) dX6_read_1 ⟨Nat.zero_le _, Nat.zero_le _⟩) hS hA hP hD (fun H locs hn1 hP hD hS => ?_)
  refine lv_if_eq (tgt := 25) hx hb dX6_read_4 (by decide) (fun hc => ?_) (fun hc => ?_)
  · have hf := if_t hf hc
    refine lv_iconst (v := (-1 : Int32)) hx hb dX6_read_25 (ic_m1) ?_
    have hK9 := K0_of hf hK
    exact hRet (-1 : Int32) f fnow ftrial _ _ _ _ hK9 dX6_read_26 hP hD hS
  · have hf := if_f hf hc
    refine lv_iload_n hx hb dX6_read_7 rfl (lv_at hl 2 rfl) ?_
    obtain ⟨r8, hc8, hf⟩ := bd_e hf
    refine cl_z_ro (Wd := (wX6 G ad ado f ++ (wX0 G (ado 1) fnow ++ (wX0 G (ado 2) ftrial ++ (wX2 G (ado 11) fsheet0 ++ (wX2 G (ado 12) fsheet1 ++ (wX2 G (ado 13) fsheet2 ++ (wX2 G (ado 14) fsheet3)))))))) (Wc := ([] : va_W)) [] rfl (va_runS (As := [.int x2]) (rest := []) hC (c_X6_isLane l G x2 r8 hc8 _) (va_cwS 1 hts gX6_read_X6_isLane rfl rfl rfl (by decide +kernel) ⟨Nat.le_of_ble_eq_true rfl, Nat.le_of_ble_eq_true rfl⟩) ⟨Pc0_blind, fun U hU hW => Pc0_at (Wd := ([] : va_W)) hE (hP.subm [] rfl) (hD.sub [] (by decide) rfl) hU hW⟩ rfl rfl hl.1 rfl (lv_room (Nat.le_of_ble_eq_true rfl)) dX6_read_8 ⟨Nat.zero_le _, Nat.zero_le _⟩) hS hA hP hD (fun H locs hn8 hP hD hS => ?_)
    refine lv_if_eq (tgt := 25) hx hb dX6_read_11 (by decide) (fun hc => ?_) (fun hc => ?_)
    · have hf := if_t hf hc
      refine lv_iconst (v := (-1 : Int32)) hx hb dX6_read_25 (ic_m1) ?_
      have hK9 := K0_of hf hK
      exact hRet (-1 : Int32) f fnow ftrial _ _ _ _ hK9 dX6_read_26 hP hD hS
    · have hf := if_f hf hc
      refine lv_iload hx hb dX6_read_14 (lv_at hl 4 rfl) ?_
      refine lv_iconst (v := (nI 0)) hx hb dX6_read_16 (ic_0) ?_
      refine lv_bipush (v := (nI 10)) hx hb dX6_read_17 (bi_10) ?_
      obtain ⟨r19, hc19, hf⟩ := bd_e hf
      refine cl_z_ro (Wd := (wX6 G ad ado f ++ (wX0 G (ado 1) fnow ++ (wX0 G (ado 2) ftrial ++ (wX2 G (ado 11) fsheet0 ++ (wX2 G (ado 12) fsheet1 ++ (wX2 G (ado 13) fsheet2 ++ (wX2 G (ado 14) fsheet3)))))))) (Wc := ([] : va_W)) [] rfl (va_runS (As := [.int x4, .int (nI 0), .int (nI 10)]) (rest := []) hC (c_X6_isWithin l G x4 (nI 0) (nI 10) r19 hc19 _) (va_cwS 3 hts gX6_read_X6_isWithin rfl rfl rfl (by decide +kernel) ⟨Nat.le_of_ble_eq_true rfl, Nat.le_of_ble_eq_true rfl⟩) ⟨Pc0_blind, fun U hU hW => Pc0_at (Wd := ([] : va_W)) hE (hP.subm [] rfl) (hD.sub [] (by decide) rfl) hU hW⟩ rfl rfl hl.1 rfl (lv_room (Nat.le_of_ble_eq_true rfl)) dX6_read_19 ⟨Nat.zero_le _, Nat.zero_le _⟩) hS hA hP hD (fun H locs hn19 hP hD hS => ?_)
      refine lv_if_ne (tgt := 27) hx hb dX6_read_22 (by decide) (fun hc => ?_) (fun hc => ?_)
      · have hf := if_f hf hc
        refine lv_aload_n hx hb dX6_read_27 rfl (lv_at hl 0 rfl) ?_
        refine va_get (C := RX6) (T := TX6) (N := 11) (ci := 6) (v := .ref (ad 3)) hx hb hts inX6 hown hT hP 0 rfl rfl 9 (Nat.le_of_ble_eq_true rfl) lk61 (fun _ h => h) rfl dX6_read_28 ?_
        refine lv_iload_n hx hb dX6_read_31 rfl (lv_at hl 1 rfl) ?_
        by_cases hc32 : x1 = nI 0
        · rw [if_pos hc32] at hf
          refine va_aldq hx hb hT hP 3 3 rfl rfl (by rw [hc32]; exact vp_in_nI (by decide) (by decide)) dX6_read_32 ?_
          refine W.eq (g2 := F0 m 33 ls [.ref ((ado 11) 0)]) (by rw [hc32]; rfl) ?_
          refine lv_astore (lv' := [(5, .ref ((ado 11) 0)), (0, .ref (ad 0)), (1, .int x1), (2, .int x2), (3, .int x3), (4, .int x4)]) hx hb dX6_read_33 hl (by decide) rfl (fun ls hl => ?_)
          refine lv_aload_n hx hb dX6_read_35 rfl (lv_at hl 1 rfl) ?_
          refine va_get (C := RX6) (T := TX6) (N := 11) (ci := 6) (v := .ref ((ado 2) 0)) hx hb hts inX6 hown hT hP 0 rfl rfl 1 (Nat.le_of_ble_eq_true rfl) lk16 (fun _ h => h) rfl dX6_read_36 ?_
          refine lv_aload_n hx hb dX6_read_39 rfl (lv_at hl 1 rfl) ?_
          refine va_get (C := RX6) (T := TX6) (N := 11) (ci := 6) (v := .ref ((ado 1) 0)) hx hb hts inX6 hown hT hP 0 rfl rfl 0 (Nat.le_of_ble_eq_true rfl) lk12 (fun _ h => h) rfl dX6_read_40 ?_
          obtain ⟨ftrial_43, hc43, hf⟩ := bd_e hf
          refine cl_v_up (Wd := (wX6 G ad ado f ++ (wX0 G (ado 1) fnow ++ (wX0 G (ado 2) ftrial ++ (wX2 G (ado 11) fsheet0 ++ (wX2 G (ado 12) fsheet1 ++ (wX2 G (ado 13) fsheet2 ++ (wX2 G (ado 14) fsheet3)))))))) (Wc := (wX0 G (ado 2) ftrial ++ (wX0 G (ado 1) fnow))) (W' := (wX0 G (ado 2) ftrial_43 ++ (wX0 G (ado 1) fnow))) (W2 := (wX6 G ad ado f ++ (wX0 G (ado 1) fnow ++ (wX0 G (ado 2) ftrial_43 ++ (wX2 G (ado 11) fsheet0 ++ (wX2 G (ado 12) fsheet1 ++ (wX2 G (ado 13) fsheet2 ++ (wX2 G (ado 14) fsheet3)))))))) (Wr := (wX6 G ad ado f ++ (wX2 G (ado 11) fsheet0 ++ (wX2 G (ado 12) fsheet1 ++ (wX2 G (ado 13) fsheet2 ++ (wX2 G (ado 14) fsheet3)))))) [15, 16, 17, 18, 19, 20, 21, 22, 23, 24, 25, 4, 5, 6, 7, 8, 9, 10, 11, 12, 13, 14] [0, 1, 2, 3, 26, 27, 28, 29, 30, 31, 32, 33] rfl rfl rfl rfl rfl rfl (va_runVN (As := [.ref ((ado 1) 0)]) (rest := []) hC (c_X0_copyFrom l G (ado 2) (ado 1) ftrial fnow ftrial_43 hc43 _) ⟨va_cnB 1 hts gX6_read_X0_copyFrom_n93 rfl rfl rfl (hE.2.2 (RX6, 93, yX0_copyFrom, "FeatherShares") (List.mem_of_getElem? (i := 8) rfl)) (hts (.initialized RX0) (by decide +kernel)) (by decide +kernel) ⟨Nat.le_of_ble_eq_true rfl, Nat.le_of_ble_eq_true rfl⟩, hts (.instanceMethod yX0_copyFrom) (by decide +kernel), hts (.selects RX0 yX0_copyFrom yX0_copyFrom) (by decide +kernel)⟩ ⟨Pc0_blind, va_recv hT hP (q0 := 15) (ci := 0) rfl rfl, fun U hU hW => Pc0_at (Wd := (wX0 G (ado 2) ftrial ++ (wX0 G (ado 1) fnow))) hE (hP.subm [15, 16, 17, 18, 19, 20, 21, 22, 23, 24, 25, 4, 5, 6, 7, 8, 9, 10, 11, 12, 13, 14] rfl) (hD.sub [15, 16, 17, 18, 19, 20, 21, 22, 23, 24, 25, 4, 5, 6, 7, 8, 9, 10, 11, 12, 13, 14] (by decide) rfl) hU hW⟩ rfl rfl hl.1 rfl (lv_room (Nat.le_of_ble_eq_true rfl)) dX6_read_43 ⟨Nat.zero_le _, Nat.zero_le _⟩) hS hA hP hD (fun H locs hP hD hS => ?_)
          refine lv_iconst (v := (nI 0)) hx hb dX6_read_46 (ic_0) ?_
          refine lv_istore (lv' := [(6, .int (nI 0)), (5, .ref ((ado 11) 0)), (0, .ref (ad 0)), (1, .int x1), (2, .int x2), (3, .int x3), (4, .int x4)]) hx hb dX6_read_47 hl (by decide) rfl (fun ls hl => ?_)
          refine lv_iconst (v := (nI 0)) hx hb dX6_read_49 (ic_0) ?_
          refine lv_istore (lv' := [(7, .int (nI 0)), (6, .int (nI 0)), (5, .ref ((ado 11) 0)), (0, .ref (ad 0)), (1, .int x1), (2, .int x2), (3, .int x3), (4, .int x4)]) hx hb dX6_read_50 hl (by decide) rfl (fun ls hl => ?_)
          refine lv_iconst (v := (nI 0)) hx hb dX6_read_52 (ic_0) ?_
          refine lv_istore (lv' := [(8, .int (nI 0)), (7, .int (nI 0)), (6, .int (nI 0)), (5, .ref ((ado 11) 0)), (0, .ref (ad 0)), (1, .int x1), (2, .int x2), (3, .int x3), (4, .int x4)]) hx hb dX6_read_53 hl (by decide) rfl (fun ls hl => ?_)
          obtain ⟨ze, hlp, hf⟩ := bd_e hf
          refine lp_W2 (p_X6_read_L55_0 f fnow fsheet0 fsheet1 fsheet2 fsheet3 x2 x3 x4) (fun z => match z with | (x6, x7, x8, ftrial_) => ∀ (H : Heap) (locs : List Loc) (ls : Array Slot), va_P G.1 vwCl (wX6 G ad ado f ++ (wX0 G (ado 1) fnow ++ (wX0 G (ado 2) ftrial_ ++ (wX2 G (ado 11) fsheet0 ++ (wX2 G (ado 12) fsheet1 ++ (wX2 G (ado 13) fsheet2 ++ (wX2 G (ado 14) fsheet3))))))) H → va_D A (wX6 G ad ado f ++ (wX0 G (ado 1) fnow ++ (wX0 G (ado 2) ftrial_ ++ (wX2 G (ado 11) fsheet0 ++ (wX2 G (ado 12) fsheet1 ++ (wX2 G (ado 13) fsheet2 ++ (wX2 G (ado 14) fsheet3))))))) → va_S A s.heap H locs → lv_has ls 10 [(0, .ref (ad 0)), (2, .int x2), (3, .int x3), (4, .int x4), (5, .ref ((ado 11) 0)), (6, .int x6), (7, .int x7), (8, .int x8)] → W p l e ({ frames := 6, cells := 0, slots := 0, locals := 129 }) s m args below meth c H locs 0 0 Q (F0 m 55 ls [])) (fun z => match z with | (y6_55, y7_55, ftrial_55) => ∀ (H : Heap) (locs : List Loc) (ls : Array Slot), va_P G.1 vwCl (wX6 G ad ado f ++ (wX0 G (ado 1) fnow ++ (wX0 G (ado 2) ftrial_55 ++ (wX2 G (ado 11) fsheet0 ++ (wX2 G (ado 12) fsheet1 ++ (wX2 G (ado 13) fsheet2 ++ (wX2 G (ado 14) fsheet3))))))) H → va_D A (wX6 G ad ado f ++ (wX0 G (ado 1) fnow ++ (wX0 G (ado 2) ftrial_55 ++ (wX2 G (ado 11) fsheet0 ++ (wX2 G (ado 12) fsheet1 ++ (wX2 G (ado 13) fsheet2 ++ (wX2 G (ado 14) fsheet3))))))) → va_S A s.heap H locs → lv_has ls 10 [(0, .ref (ad 0)), (6, .int y6_55), (7, .int y7_55)] → W p l e ({ frames := 6, cells := 0, slots := 0, locals := 129 }) s m args below meth c H locs 0 0 Q (F0 m 119 ls [])) (fun z => z = (r, fz, fnowz, ftrialz)) ?_ hlp ?_ _ _ _ hP hD hS (lv_sub hl [4, 6, 7, 8, 3, 2, 1, 0] rfl)
          · clear hlp hf hK hP hD hS hl
            intro K55 hW55 hX55 hO55
            rintro ⟨x6, x7, x8, ftrial_⟩ res hf hK H locs ls hP hD hS hl
            unfold p_X6_read_L55_0 at hf
            dsimp only at hf
            refine lv_iload hx hb dX6_read_55 (lv_at hl 7 rfl) ?_
            refine lv_iload hx hb dX6_read_57 (lv_at hl 3 rfl) ?_
            refine lv_icmp_ge (tgt := 119) hx hb dX6_read_59 (by decide) (fun hc => ?_) (fun hc => ?_)
            · have hf := if_t hf hc
              have hK9 := K_of hf hK
              have hK9 := hX55 _ hK9
              exact hK9 _ _ _ hP hD hS (lv_sub hl [0, 5, 6] rfl)
            · have hf := if_f hf hc
              refine lv_iload hx hb dX6_read_62 (lv_at hl 5 rfl) ?_
              refine lv_if_ne (tgt := 119) hx hb dX6_read_64 (by decide) (fun hc => ?_) (fun hc => ?_)
              · have hf := if_f hf hc
                have hK9 := K_of hf hK
                have hK9 := hX55 _ hK9
                exact hK9 _ _ _ hP hD hS (lv_sub hl [0, 5, 6] rfl)
              · have hf := if_t hf hc
                refine lv_iload_n hx hb dX6_read_67 rfl (lv_at hl 2 rfl) ?_
                refine lv_iconst (v := (nI 4)) hx hb dX6_read_68 (ic_4) ?_
                refine lv_iload hx hb dX6_read_69 (lv_at hl 7 rfl) ?_
                refine lv_imul hx hb dX6_read_71 ?_
                refine lv_iadd hx hb dX6_read_72 ?_
                refine lv_istore (lv' := [(9, .int (x3 + ((nI 4) * x8))), (0, .ref (ad 0)), (2, .int x2), (3, .int x3), (4, .int x4), (5, .ref ((ado 11) 0)), (6, .int x6), (7, .int x7), (8, .int x8)]) hx hb dX6_read_73 hl (by decide) rfl (fun ls hl => ?_)
                refine lv_aload hx hb dX6_read_75 (lv_at hl 5 rfl) ?_
                refine lv_iload_n hx hb dX6_read_77 rfl (lv_at hl 2 rfl) ?_
                refine lv_iload hx hb dX6_read_78 (lv_at hl 0 rfl) ?_
                obtain ⟨r80, hc80, hf⟩ := bd_e hf
                refine cl_i_ro (Wd := (wX6 G ad ado f ++ (wX0 G (ado 1) fnow ++ (wX0 G (ado 2) ftrial_ ++ (wX2 G (ado 11) fsheet0 ++ (wX2 G (ado 12) fsheet1 ++ (wX2 G (ado 13) fsheet2 ++ (wX2 G (ado 14) fsheet3)))))))) (Wc := (wX2 G (ado 11) fsheet0)) [26, 27] rfl (va_runVN (As := [.int x2, .int (x3 + ((nI 4) * x8))]) (rest := []) hC (c_X2_faultOfTrade l G (ado 11) fsheet0 x2 (x3 + ((nI 4) * x8)) r80 hc80 _) ⟨va_cnB 2 hts gX6_read_X2_faultOfTrade_n303 rfl rfl rfl (hE.2.2 (RX6, 303, yX2_faultOfTrade, "FeatherShares") (List.mem_of_getElem? (i := 35) rfl)) (hts (.initialized RX2) (by decide +kernel)) (by decide +kernel) ⟨Nat.le_of_ble_eq_true rfl, Nat.le_of_ble_eq_true rfl⟩, hts (.instanceMethod yX2_faultOfTrade) (by decide +kernel), hts (.selects RX2 yX2_faultOfTrade yX2_faultOfTrade) (by decide +kernel)⟩ ⟨Pc0_blind, va_recv hT hP (q0 := 26) (ci := 2) rfl rfl, fun U hU hW => Pc0_at (Wd := (wX2 G (ado 11) fsheet0)) hE (hP.subm [26, 27] rfl) (hD.sub [26, 27] (by decide) rfl) hU hW⟩ rfl rfl hl.1 rfl (lv_room (Nat.le_of_ble_eq_true rfl)) dX6_read_80 ⟨Nat.zero_le _, Nat.zero_le _⟩) hS hA hP hD (fun H locs hP hD hS => ?_)
                refine lv_istore (lv' := [(6, .int r80), (9, .int (x3 + ((nI 4) * x8))), (0, .ref (ad 0)), (2, .int x2), (3, .int x3), (4, .int x4), (5, .ref ((ado 11) 0)), (7, .int x7), (8, .int x8)]) hx hb dX6_read_83 hl (by decide) rfl (fun ls hl => ?_)
                refine lv_iload hx hb dX6_read_85 (lv_at hl 0 rfl) ?_
                refine lv_if_ne (tgt := 113) hx hb dX6_read_87 (by decide) (fun hc => ?_) (fun hc => ?_)
                · have hf := if_f hf hc
                  refine lv_iinc (v := (x8 + nI 1)) (lv' := [(8, .int (x8 + nI 1)), (6, .int r80), (9, .int (x3 + ((nI 4) * x8))), (0, .ref (ad 0)), (2, .int x2), (3, .int x3), (4, .int x4), (5, .ref ((ado 11) 0)), (7, .int x7)]) hx hb dX6_read_113 hl (k := 8) rfl (ii_x 1 _) (by decide) rfl (fun ls hl => ?_)
                  refine lv_goto (tgt := 55) hx hb dX6_read_116 (by decide) ?_
                  have hK9 := K_of hf hK
                  have hK9 := hW55 _ hK9
                  exact hK9 _ _ _ hP hD hS (lv_sub hl [3, 4, 5, 6, 7, 1, 8, 0] rfl)
                · have hf := if_t hf hc
                  refine lv_aload hx hb dX6_read_90 (lv_at hl 6 rfl) ?_
                  refine lv_iload hx hb dX6_read_92 (lv_at hl 1 rfl) ?_
                  refine lv_aload_n hx hb dX6_read_94 rfl (lv_at hl 2 rfl) ?_
                  refine va_get (C := RX6) (T := TX6) (N := 11) (ci := 6) (v := .ref ((ado 2) 0)) hx hb hts inX6 hown hT hP 0 rfl rfl 1 (Nat.le_of_ble_eq_true rfl) lk16 (fun _ h => h) rfl dX6_read_95 ?_
                  obtain ⟨⟨r98, ftrial_98⟩, hc98, hf⟩ := bd_e hf
                  try dsimp only at hf
                  refine cl_z_up (Wd := (wX6 G ad ado f ++ (wX0 G (ado 1) fnow ++ (wX0 G (ado 2) ftrial_ ++ (wX2 G (ado 11) fsheet0 ++ (wX2 G (ado 12) fsheet1 ++ (wX2 G (ado 13) fsheet2 ++ (wX2 G (ado 14) fsheet3)))))))) (Wc := (wX2 G (ado 11) fsheet0 ++ (wX0 G (ado 2) ftrial_))) (W' := (wX2 G (ado 11) fsheet0 ++ (wX0 G (ado 2) ftrial_98))) (W2 := (wX6 G ad ado f ++ (wX0 G (ado 1) fnow ++ (wX0 G (ado 2) ftrial_98 ++ (wX2 G (ado 11) fsheet0 ++ (wX2 G (ado 12) fsheet1 ++ (wX2 G (ado 13) fsheet2 ++ (wX2 G (ado 14) fsheet3)))))))) (Wr := (wX6 G ad ado f ++ (wX0 G (ado 1) fnow ++ (wX2 G (ado 12) fsheet1 ++ (wX2 G (ado 13) fsheet2 ++ (wX2 G (ado 14) fsheet3)))))) [26, 27, 15, 16, 17, 18, 19, 20, 21, 22, 23, 24, 25] [0, 1, 2, 3, 4, 5, 6, 7, 8, 9, 10, 11, 12, 13, 14, 28, 29, 30, 31, 32, 33] rfl rfl rfl rfl rfl rfl (va_runVN (As := [.int (x3 + ((nI 4) * x8)), .ref ((ado 2) 0)]) (rest := []) hC (c_X2_tradeOn l G (ado 11) (ado 2) fsheet0 ftrial_ (x3 + ((nI 4) * x8)) r98 ftrial_98 hc98 _) ⟨va_cnB 2 hts gX6_read_X2_tradeOn_n306 rfl rfl rfl (hE.2.2 (RX6, 306, yX2_tradeOn, "FeatherShares") (List.mem_of_getElem? (i := 36) rfl)) (hts (.initialized RX2) (by decide +kernel)) (by decide +kernel) ⟨Nat.le_of_ble_eq_true rfl, Nat.le_of_ble_eq_true rfl⟩, hts (.instanceMethod yX2_tradeOn) (by decide +kernel), hts (.selects RX2 yX2_tradeOn yX2_tradeOn) (by decide +kernel)⟩ ⟨Pc0_blind, va_recv hT hP (q0 := 26) (ci := 2) rfl rfl, fun U hU hW => Pc0_at (Wd := (wX2 G (ado 11) fsheet0 ++ (wX0 G (ado 2) ftrial_))) hE (hP.subm [26, 27, 15, 16, 17, 18, 19, 20, 21, 22, 23, 24, 25] rfl) (hD.sub [26, 27, 15, 16, 17, 18, 19, 20, 21, 22, 23, 24, 25] (by decide) rfl) hU hW⟩ rfl rfl hl.1 rfl (lv_room (Nat.le_of_ble_eq_true rfl)) dX6_read_98 ⟨Nat.zero_le _, Nat.zero_le _⟩) hS hA hP hD (fun H locs hn98 hP hD hS => ?_)
                  refine lv_if_ne (tgt := 110) hx hb dX6_read_101 (by decide) (fun hc => ?_) (fun hc => ?_)
                  · have hf := if_f hf hc
                    refine lv_iinc (v := (x7 + nI 1)) (lv' := [(7, .int (x7 + nI 1)), (6, .int r80), (9, .int (x3 + ((nI 4) * x8))), (0, .ref (ad 0)), (2, .int x2), (3, .int x3), (4, .int x4), (5, .ref ((ado 11) 0)), (8, .int x8)]) hx hb dX6_read_110 hl (k := 7) rfl (ii_x 1 _) (by decide) rfl (fun ls hl => ?_)
                    refine lv_iinc (v := (x8 + nI 1)) (lv' := [(8, .int (x8 + nI 1)), (7, .int (x7 + nI 1)), (6, .int r80), (9, .int (x3 + ((nI 4) * x8))), (0, .ref (ad 0)), (2, .int x2), (3, .int x3), (4, .int x4), (5, .ref ((ado 11) 0))]) hx hb dX6_read_113 hl (k := 8) rfl (ii_x 1 _) (by decide) rfl (fun ls hl => ?_)
                    refine lv_goto (tgt := 55) hx hb dX6_read_116 (by decide) ?_
                    have hK9 := K_of hf hK
                    have hK9 := hW55 _ hK9
                    exact hK9 _ _ _ hP hD hS (lv_sub hl [4, 5, 6, 7, 8, 2, 1, 0] rfl)
                  · have hf := if_t hf hc
                    refine lv_bipush (v := (-20 : Int32)) hx hb dX6_read_104 (bi_m20) ?_
                    refine lv_iload hx hb dX6_read_106 (lv_at hl 8 rfl) ?_
                    refine lv_isub hx hb dX6_read_108 ?_
                    have hK9 := K_of hf hK
                    have hK9 := hO55 _ hK9
                    exact hRet ((-20 : Int32) - x8) f fnow ftrial_98 _ _ _ _ hK9 dX6_read_109 hP hD hS
          · rcases ze with ⟨y6_55, y7_55, ftrial_55⟩ | zo
            · try simp only [Sum.elim_inl] at hf
              try dsimp only at hf
              show ∀ (H : Heap) (locs : List Loc) (ls : Array Slot), va_P G.1 vwCl (wX6 G ad ado f ++ (wX0 G (ado 1) fnow ++ (wX0 G (ado 2) ftrial_55 ++ (wX2 G (ado 11) fsheet0 ++ (wX2 G (ado 12) fsheet1 ++ (wX2 G (ado 13) fsheet2 ++ (wX2 G (ado 14) fsheet3))))))) H → va_D A (wX6 G ad ado f ++ (wX0 G (ado 1) fnow ++ (wX0 G (ado 2) ftrial_55 ++ (wX2 G (ado 11) fsheet0 ++ (wX2 G (ado 12) fsheet1 ++ (wX2 G (ado 13) fsheet2 ++ (wX2 G (ado 14) fsheet3))))))) → va_S A s.heap H locs → lv_has ls 10 [(0, .ref (ad 0)), (6, .int y6_55), (7, .int y7_55)] → W p l e ({ frames := 6, cells := 0, slots := 0, locals := 129 }) s m args below meth c H locs 0 0 Q (F0 m 119 ls [])
              intro H locs ls hP hD hS hl
              exact hB119 f fnow ftrial_55 y6_55 y7_55 _ hf hK _ _ _ hP hD hS (lv_sub hl [0, 1, 2] rfl)
            · have hK9 := K0_of (show some zo = some _ from hf) hK
              exact hK9
        rw [if_neg hc32] at hf
        by_cases hc32 : x1 = nI 1
        · rw [if_pos hc32] at hf
          refine va_aldq hx hb hT hP 3 3 rfl rfl (by rw [hc32]; exact vp_in_nI (by decide) (by decide)) dX6_read_32 ?_
          refine W.eq (g2 := F0 m 33 ls [.ref ((ado 12) 0)]) (by rw [hc32]; rfl) ?_
          refine lv_astore (lv' := [(5, .ref ((ado 12) 0)), (0, .ref (ad 0)), (1, .int x1), (2, .int x2), (3, .int x3), (4, .int x4)]) hx hb dX6_read_33 hl (by decide) rfl (fun ls hl => ?_)
          refine lv_aload_n hx hb dX6_read_35 rfl (lv_at hl 1 rfl) ?_
          refine va_get (C := RX6) (T := TX6) (N := 11) (ci := 6) (v := .ref ((ado 2) 0)) hx hb hts inX6 hown hT hP 0 rfl rfl 1 (Nat.le_of_ble_eq_true rfl) lk16 (fun _ h => h) rfl dX6_read_36 ?_
          refine lv_aload_n hx hb dX6_read_39 rfl (lv_at hl 1 rfl) ?_
          refine va_get (C := RX6) (T := TX6) (N := 11) (ci := 6) (v := .ref ((ado 1) 0)) hx hb hts inX6 hown hT hP 0 rfl rfl 0 (Nat.le_of_ble_eq_true rfl) lk12 (fun _ h => h) rfl dX6_read_40 ?_
          obtain ⟨ftrial_43, hc43, hf⟩ := bd_e hf
          refine cl_v_up (Wd := (wX6 G ad ado f ++ (wX0 G (ado 1) fnow ++ (wX0 G (ado 2) ftrial ++ (wX2 G (ado 11) fsheet0 ++ (wX2 G (ado 12) fsheet1 ++ (wX2 G (ado 13) fsheet2 ++ (wX2 G (ado 14) fsheet3)))))))) (Wc := (wX0 G (ado 2) ftrial ++ (wX0 G (ado 1) fnow))) (W' := (wX0 G (ado 2) ftrial_43 ++ (wX0 G (ado 1) fnow))) (W2 := (wX6 G ad ado f ++ (wX0 G (ado 1) fnow ++ (wX0 G (ado 2) ftrial_43 ++ (wX2 G (ado 11) fsheet0 ++ (wX2 G (ado 12) fsheet1 ++ (wX2 G (ado 13) fsheet2 ++ (wX2 G (ado 14) fsheet3)))))))) (Wr := (wX6 G ad ado f ++ (wX2 G (ado 11) fsheet0 ++ (wX2 G (ado 12) fsheet1 ++ (wX2 G (ado 13) fsheet2 ++ (wX2 G (ado 14) fsheet3)))))) [15, 16, 17, 18, 19, 20, 21, 22, 23, 24, 25, 4, 5, 6, 7, 8, 9, 10, 11, 12, 13, 14] [0, 1, 2, 3, 26, 27, 28, 29, 30, 31, 32, 33] rfl rfl rfl rfl rfl rfl (va_runVN (As := [.ref ((ado 1) 0)]) (rest := []) hC (c_X0_copyFrom l G (ado 2) (ado 1) ftrial fnow ftrial_43 hc43 _) ⟨va_cnB 1 hts gX6_read_X0_copyFrom_n93 rfl rfl rfl (hE.2.2 (RX6, 93, yX0_copyFrom, "FeatherShares") (List.mem_of_getElem? (i := 8) rfl)) (hts (.initialized RX0) (by decide +kernel)) (by decide +kernel) ⟨Nat.le_of_ble_eq_true rfl, Nat.le_of_ble_eq_true rfl⟩, hts (.instanceMethod yX0_copyFrom) (by decide +kernel), hts (.selects RX0 yX0_copyFrom yX0_copyFrom) (by decide +kernel)⟩ ⟨Pc0_blind, va_recv hT hP (q0 := 15) (ci := 0) rfl rfl, fun U hU hW => Pc0_at (Wd := (wX0 G (ado 2) ftrial ++ (wX0 G (ado 1) fnow))) hE (hP.subm [15, 16, 17, 18, 19, 20, 21, 22, 23, 24, 25, 4, 5, 6, 7, 8, 9, 10, 11, 12, 13, 14] rfl) (hD.sub [15, 16, 17, 18, 19, 20, 21, 22, 23, 24, 25, 4, 5, 6, 7, 8, 9, 10, 11, 12, 13, 14] (by decide) rfl) hU hW⟩ rfl rfl hl.1 rfl (lv_room (Nat.le_of_ble_eq_true rfl)) dX6_read_43 ⟨Nat.zero_le _, Nat.zero_le _⟩) hS hA hP hD (fun H locs hP hD hS => ?_)
          refine lv_iconst (v := (nI 0)) hx hb dX6_read_46 (ic_0) ?_
          refine lv_istore (lv' := [(6, .int (nI 0)), (5, .ref ((ado 12) 0)), (0, .ref (ad 0)), (1, .int x1), (2, .int x2), (3, .int x3), (4, .int x4)]) hx hb dX6_read_47 hl (by decide) rfl (fun ls hl => ?_)
          refine lv_iconst (v := (nI 0)) hx hb dX6_read_49 (ic_0) ?_
          refine lv_istore (lv' := [(7, .int (nI 0)), (6, .int (nI 0)), (5, .ref ((ado 12) 0)), (0, .ref (ad 0)), (1, .int x1), (2, .int x2), (3, .int x3), (4, .int x4)]) hx hb dX6_read_50 hl (by decide) rfl (fun ls hl => ?_)
          refine lv_iconst (v := (nI 0)) hx hb dX6_read_52 (ic_0) ?_
          refine lv_istore (lv' := [(8, .int (nI 0)), (7, .int (nI 0)), (6, .int (nI 0)), (5, .ref ((ado 12) 0)), (0, .ref (ad 0)), (1, .int x1), (2, .int x2), (3, .int x3), (4, .int x4)]) hx hb dX6_read_53 hl (by decide) rfl (fun ls hl => ?_)
          obtain ⟨ze, hlp, hf⟩ := bd_e hf
          refine lp_W2 (p_X6_read_L55_1 f fnow fsheet0 fsheet1 fsheet2 fsheet3 x2 x3 x4) (fun z => match z with | (x6, x7, x8, ftrial_) => ∀ (H : Heap) (locs : List Loc) (ls : Array Slot), va_P G.1 vwCl (wX6 G ad ado f ++ (wX0 G (ado 1) fnow ++ (wX0 G (ado 2) ftrial_ ++ (wX2 G (ado 11) fsheet0 ++ (wX2 G (ado 12) fsheet1 ++ (wX2 G (ado 13) fsheet2 ++ (wX2 G (ado 14) fsheet3))))))) H → va_D A (wX6 G ad ado f ++ (wX0 G (ado 1) fnow ++ (wX0 G (ado 2) ftrial_ ++ (wX2 G (ado 11) fsheet0 ++ (wX2 G (ado 12) fsheet1 ++ (wX2 G (ado 13) fsheet2 ++ (wX2 G (ado 14) fsheet3))))))) → va_S A s.heap H locs → lv_has ls 10 [(0, .ref (ad 0)), (2, .int x2), (3, .int x3), (4, .int x4), (5, .ref ((ado 12) 0)), (6, .int x6), (7, .int x7), (8, .int x8)] → W p l e ({ frames := 6, cells := 0, slots := 0, locals := 129 }) s m args below meth c H locs 0 0 Q (F0 m 55 ls [])) (fun z => match z with | (y6_55, y7_55, ftrial_55) => ∀ (H : Heap) (locs : List Loc) (ls : Array Slot), va_P G.1 vwCl (wX6 G ad ado f ++ (wX0 G (ado 1) fnow ++ (wX0 G (ado 2) ftrial_55 ++ (wX2 G (ado 11) fsheet0 ++ (wX2 G (ado 12) fsheet1 ++ (wX2 G (ado 13) fsheet2 ++ (wX2 G (ado 14) fsheet3))))))) H → va_D A (wX6 G ad ado f ++ (wX0 G (ado 1) fnow ++ (wX0 G (ado 2) ftrial_55 ++ (wX2 G (ado 11) fsheet0 ++ (wX2 G (ado 12) fsheet1 ++ (wX2 G (ado 13) fsheet2 ++ (wX2 G (ado 14) fsheet3))))))) → va_S A s.heap H locs → lv_has ls 10 [(0, .ref (ad 0)), (6, .int y6_55), (7, .int y7_55)] → W p l e ({ frames := 6, cells := 0, slots := 0, locals := 129 }) s m args below meth c H locs 0 0 Q (F0 m 119 ls [])) (fun z => z = (r, fz, fnowz, ftrialz)) ?_ hlp ?_ _ _ _ hP hD hS (lv_sub hl [4, 6, 7, 8, 3, 2, 1, 0] rfl)
          · clear hlp hf hK hP hD hS hl
            intro K55 hW55 hX55 hO55
            rintro ⟨x6, x7, x8, ftrial_⟩ res hf hK H locs ls hP hD hS hl
            unfold p_X6_read_L55_1 at hf
            dsimp only at hf
            refine lv_iload hx hb dX6_read_55 (lv_at hl 7 rfl) ?_
            refine lv_iload hx hb dX6_read_57 (lv_at hl 3 rfl) ?_
            refine lv_icmp_ge (tgt := 119) hx hb dX6_read_59 (by decide) (fun hc => ?_) (fun hc => ?_)
            · have hf := if_t hf hc
              have hK9 := K_of hf hK
              have hK9 := hX55 _ hK9
              exact hK9 _ _ _ hP hD hS (lv_sub hl [0, 5, 6] rfl)
            · have hf := if_f hf hc
              refine lv_iload hx hb dX6_read_62 (lv_at hl 5 rfl) ?_
              refine lv_if_ne (tgt := 119) hx hb dX6_read_64 (by decide) (fun hc => ?_) (fun hc => ?_)
              · have hf := if_f hf hc
                have hK9 := K_of hf hK
                have hK9 := hX55 _ hK9
                exact hK9 _ _ _ hP hD hS (lv_sub hl [0, 5, 6] rfl)
              · have hf := if_t hf hc
                refine lv_iload_n hx hb dX6_read_67 rfl (lv_at hl 2 rfl) ?_
                refine lv_iconst (v := (nI 4)) hx hb dX6_read_68 (ic_4) ?_
                refine lv_iload hx hb dX6_read_69 (lv_at hl 7 rfl) ?_
                refine lv_imul hx hb dX6_read_71 ?_
                refine lv_iadd hx hb dX6_read_72 ?_
                refine lv_istore (lv' := [(9, .int (x3 + ((nI 4) * x8))), (0, .ref (ad 0)), (2, .int x2), (3, .int x3), (4, .int x4), (5, .ref ((ado 12) 0)), (6, .int x6), (7, .int x7), (8, .int x8)]) hx hb dX6_read_73 hl (by decide) rfl (fun ls hl => ?_)
                refine lv_aload hx hb dX6_read_75 (lv_at hl 5 rfl) ?_
                refine lv_iload_n hx hb dX6_read_77 rfl (lv_at hl 2 rfl) ?_
                refine lv_iload hx hb dX6_read_78 (lv_at hl 0 rfl) ?_
                obtain ⟨r80, hc80, hf⟩ := bd_e hf
                refine cl_i_ro (Wd := (wX6 G ad ado f ++ (wX0 G (ado 1) fnow ++ (wX0 G (ado 2) ftrial_ ++ (wX2 G (ado 11) fsheet0 ++ (wX2 G (ado 12) fsheet1 ++ (wX2 G (ado 13) fsheet2 ++ (wX2 G (ado 14) fsheet3)))))))) (Wc := (wX2 G (ado 12) fsheet1)) [28, 29] rfl (va_runVN (As := [.int x2, .int (x3 + ((nI 4) * x8))]) (rest := []) hC (c_X2_faultOfTrade l G (ado 12) fsheet1 x2 (x3 + ((nI 4) * x8)) r80 hc80 _) ⟨va_cnB 2 hts gX6_read_X2_faultOfTrade_n303 rfl rfl rfl (hE.2.2 (RX6, 303, yX2_faultOfTrade, "FeatherShares") (List.mem_of_getElem? (i := 35) rfl)) (hts (.initialized RX2) (by decide +kernel)) (by decide +kernel) ⟨Nat.le_of_ble_eq_true rfl, Nat.le_of_ble_eq_true rfl⟩, hts (.instanceMethod yX2_faultOfTrade) (by decide +kernel), hts (.selects RX2 yX2_faultOfTrade yX2_faultOfTrade) (by decide +kernel)⟩ ⟨Pc0_blind, va_recv hT hP (q0 := 28) (ci := 2) rfl rfl, fun U hU hW => Pc0_at (Wd := (wX2 G (ado 12) fsheet1)) hE (hP.subm [28, 29] rfl) (hD.sub [28, 29] (by decide) rfl) hU hW⟩ rfl rfl hl.1 rfl (lv_room (Nat.le_of_ble_eq_true rfl)) dX6_read_80 ⟨Nat.zero_le _, Nat.zero_le _⟩) hS hA hP hD (fun H locs hP hD hS => ?_)
                refine lv_istore (lv' := [(6, .int r80), (9, .int (x3 + ((nI 4) * x8))), (0, .ref (ad 0)), (2, .int x2), (3, .int x3), (4, .int x4), (5, .ref ((ado 12) 0)), (7, .int x7), (8, .int x8)]) hx hb dX6_read_83 hl (by decide) rfl (fun ls hl => ?_)
                refine lv_iload hx hb dX6_read_85 (lv_at hl 0 rfl) ?_
                refine lv_if_ne (tgt := 113) hx hb dX6_read_87 (by decide) (fun hc => ?_) (fun hc => ?_)
                · have hf := if_f hf hc
                  refine lv_iinc (v := (x8 + nI 1)) (lv' := [(8, .int (x8 + nI 1)), (6, .int r80), (9, .int (x3 + ((nI 4) * x8))), (0, .ref (ad 0)), (2, .int x2), (3, .int x3), (4, .int x4), (5, .ref ((ado 12) 0)), (7, .int x7)]) hx hb dX6_read_113 hl (k := 8) rfl (ii_x 1 _) (by decide) rfl (fun ls hl => ?_)
                  refine lv_goto (tgt := 55) hx hb dX6_read_116 (by decide) ?_
                  have hK9 := K_of hf hK
                  have hK9 := hW55 _ hK9
                  exact hK9 _ _ _ hP hD hS (lv_sub hl [3, 4, 5, 6, 7, 1, 8, 0] rfl)
                · have hf := if_t hf hc
                  refine lv_aload hx hb dX6_read_90 (lv_at hl 6 rfl) ?_
                  refine lv_iload hx hb dX6_read_92 (lv_at hl 1 rfl) ?_
                  refine lv_aload_n hx hb dX6_read_94 rfl (lv_at hl 2 rfl) ?_
                  refine va_get (C := RX6) (T := TX6) (N := 11) (ci := 6) (v := .ref ((ado 2) 0)) hx hb hts inX6 hown hT hP 0 rfl rfl 1 (Nat.le_of_ble_eq_true rfl) lk16 (fun _ h => h) rfl dX6_read_95 ?_
                  obtain ⟨⟨r98, ftrial_98⟩, hc98, hf⟩ := bd_e hf
                  try dsimp only at hf
                  refine cl_z_up (Wd := (wX6 G ad ado f ++ (wX0 G (ado 1) fnow ++ (wX0 G (ado 2) ftrial_ ++ (wX2 G (ado 11) fsheet0 ++ (wX2 G (ado 12) fsheet1 ++ (wX2 G (ado 13) fsheet2 ++ (wX2 G (ado 14) fsheet3)))))))) (Wc := (wX2 G (ado 12) fsheet1 ++ (wX0 G (ado 2) ftrial_))) (W' := (wX2 G (ado 12) fsheet1 ++ (wX0 G (ado 2) ftrial_98))) (W2 := (wX6 G ad ado f ++ (wX0 G (ado 1) fnow ++ (wX0 G (ado 2) ftrial_98 ++ (wX2 G (ado 11) fsheet0 ++ (wX2 G (ado 12) fsheet1 ++ (wX2 G (ado 13) fsheet2 ++ (wX2 G (ado 14) fsheet3)))))))) (Wr := (wX6 G ad ado f ++ (wX0 G (ado 1) fnow ++ (wX2 G (ado 11) fsheet0 ++ (wX2 G (ado 13) fsheet2 ++ (wX2 G (ado 14) fsheet3)))))) [28, 29, 15, 16, 17, 18, 19, 20, 21, 22, 23, 24, 25] [0, 1, 2, 3, 4, 5, 6, 7, 8, 9, 10, 11, 12, 13, 14, 26, 27, 30, 31, 32, 33] rfl rfl rfl rfl rfl rfl (va_runVN (As := [.int (x3 + ((nI 4) * x8)), .ref ((ado 2) 0)]) (rest := []) hC (c_X2_tradeOn l G (ado 12) (ado 2) fsheet1 ftrial_ (x3 + ((nI 4) * x8)) r98 ftrial_98 hc98 _) ⟨va_cnB 2 hts gX6_read_X2_tradeOn_n306 rfl rfl rfl (hE.2.2 (RX6, 306, yX2_tradeOn, "FeatherShares") (List.mem_of_getElem? (i := 36) rfl)) (hts (.initialized RX2) (by decide +kernel)) (by decide +kernel) ⟨Nat.le_of_ble_eq_true rfl, Nat.le_of_ble_eq_true rfl⟩, hts (.instanceMethod yX2_tradeOn) (by decide +kernel), hts (.selects RX2 yX2_tradeOn yX2_tradeOn) (by decide +kernel)⟩ ⟨Pc0_blind, va_recv hT hP (q0 := 28) (ci := 2) rfl rfl, fun U hU hW => Pc0_at (Wd := (wX2 G (ado 12) fsheet1 ++ (wX0 G (ado 2) ftrial_))) hE (hP.subm [28, 29, 15, 16, 17, 18, 19, 20, 21, 22, 23, 24, 25] rfl) (hD.sub [28, 29, 15, 16, 17, 18, 19, 20, 21, 22, 23, 24, 25] (by decide) rfl) hU hW⟩ rfl rfl hl.1 rfl (lv_room (Nat.le_of_ble_eq_true rfl)) dX6_read_98 ⟨Nat.zero_le _, Nat.zero_le _⟩) hS hA hP hD (fun H locs hn98 hP hD hS => ?_)
                  refine lv_if_ne (tgt := 110) hx hb dX6_read_101 (by decide) (fun hc => ?_) (fun hc => ?_)
                  · have hf := if_f hf hc
                    refine lv_iinc (v := (x7 + nI 1)) (lv' := [(7, .int (x7 + nI 1)), (6, .int r80), (9, .int (x3 + ((nI 4) * x8))), (0, .ref (ad 0)), (2, .int x2), (3, .int x3), (4, .int x4), (5, .ref ((ado 12) 0)), (8, .int x8)]) hx hb dX6_read_110 hl (k := 7) rfl (ii_x 1 _) (by decide) rfl (fun ls hl => ?_)
                    refine lv_iinc (v := (x8 + nI 1)) (lv' := [(8, .int (x8 + nI 1)), (7, .int (x7 + nI 1)), (6, .int r80), (9, .int (x3 + ((nI 4) * x8))), (0, .ref (ad 0)), (2, .int x2), (3, .int x3), (4, .int x4), (5, .ref ((ado 12) 0))]) hx hb dX6_read_113 hl (k := 8) rfl (ii_x 1 _) (by decide) rfl (fun ls hl => ?_)
                    refine lv_goto (tgt := 55) hx hb dX6_read_116 (by decide) ?_
                    have hK9 := K_of hf hK
                    have hK9 := hW55 _ hK9
                    exact hK9 _ _ _ hP hD hS (lv_sub hl [4, 5, 6, 7, 8, 2, 1, 0] rfl)
                  · have hf := if_t hf hc
                    refine lv_bipush (v := (-20 : Int32)) hx hb dX6_read_104 (bi_m20) ?_
                    refine lv_iload hx hb dX6_read_106 (lv_at hl 8 rfl) ?_
                    refine lv_isub hx hb dX6_read_108 ?_
                    have hK9 := K_of hf hK
                    have hK9 := hO55 _ hK9
                    exact hRet ((-20 : Int32) - x8) f fnow ftrial_98 _ _ _ _ hK9 dX6_read_109 hP hD hS
          · rcases ze with ⟨y6_55, y7_55, ftrial_55⟩ | zo
            · try simp only [Sum.elim_inl] at hf
              try dsimp only at hf
              show ∀ (H : Heap) (locs : List Loc) (ls : Array Slot), va_P G.1 vwCl (wX6 G ad ado f ++ (wX0 G (ado 1) fnow ++ (wX0 G (ado 2) ftrial_55 ++ (wX2 G (ado 11) fsheet0 ++ (wX2 G (ado 12) fsheet1 ++ (wX2 G (ado 13) fsheet2 ++ (wX2 G (ado 14) fsheet3))))))) H → va_D A (wX6 G ad ado f ++ (wX0 G (ado 1) fnow ++ (wX0 G (ado 2) ftrial_55 ++ (wX2 G (ado 11) fsheet0 ++ (wX2 G (ado 12) fsheet1 ++ (wX2 G (ado 13) fsheet2 ++ (wX2 G (ado 14) fsheet3))))))) → va_S A s.heap H locs → lv_has ls 10 [(0, .ref (ad 0)), (6, .int y6_55), (7, .int y7_55)] → W p l e ({ frames := 6, cells := 0, slots := 0, locals := 129 }) s m args below meth c H locs 0 0 Q (F0 m 119 ls [])
              intro H locs ls hP hD hS hl
              exact hB119 f fnow ftrial_55 y6_55 y7_55 _ hf hK _ _ _ hP hD hS (lv_sub hl [0, 1, 2] rfl)
            · have hK9 := K0_of (show some zo = some _ from hf) hK
              exact hK9
        rw [if_neg hc32] at hf
        by_cases hc32 : x1 = nI 2
        · rw [if_pos hc32] at hf
          refine va_aldq hx hb hT hP 3 3 rfl rfl (by rw [hc32]; exact vp_in_nI (by decide) (by decide)) dX6_read_32 ?_
          refine W.eq (g2 := F0 m 33 ls [.ref ((ado 13) 0)]) (by rw [hc32]; rfl) ?_
          refine lv_astore (lv' := [(5, .ref ((ado 13) 0)), (0, .ref (ad 0)), (1, .int x1), (2, .int x2), (3, .int x3), (4, .int x4)]) hx hb dX6_read_33 hl (by decide) rfl (fun ls hl => ?_)
          refine lv_aload_n hx hb dX6_read_35 rfl (lv_at hl 1 rfl) ?_
          refine va_get (C := RX6) (T := TX6) (N := 11) (ci := 6) (v := .ref ((ado 2) 0)) hx hb hts inX6 hown hT hP 0 rfl rfl 1 (Nat.le_of_ble_eq_true rfl) lk16 (fun _ h => h) rfl dX6_read_36 ?_
          refine lv_aload_n hx hb dX6_read_39 rfl (lv_at hl 1 rfl) ?_
          refine va_get (C := RX6) (T := TX6) (N := 11) (ci := 6) (v := .ref ((ado 1) 0)) hx hb hts inX6 hown hT hP 0 rfl rfl 0 (Nat.le_of_ble_eq_true rfl) lk12 (fun _ h => h) rfl dX6_read_40 ?_
          obtain ⟨ftrial_43, hc43, hf⟩ := bd_e hf
          refine cl_v_up (Wd := (wX6 G ad ado f ++ (wX0 G (ado 1) fnow ++ (wX0 G (ado 2) ftrial ++ (wX2 G (ado 11) fsheet0 ++ (wX2 G (ado 12) fsheet1 ++ (wX2 G (ado 13) fsheet2 ++ (wX2 G (ado 14) fsheet3)))))))) (Wc := (wX0 G (ado 2) ftrial ++ (wX0 G (ado 1) fnow))) (W' := (wX0 G (ado 2) ftrial_43 ++ (wX0 G (ado 1) fnow))) (W2 := (wX6 G ad ado f ++ (wX0 G (ado 1) fnow ++ (wX0 G (ado 2) ftrial_43 ++ (wX2 G (ado 11) fsheet0 ++ (wX2 G (ado 12) fsheet1 ++ (wX2 G (ado 13) fsheet2 ++ (wX2 G (ado 14) fsheet3)))))))) (Wr := (wX6 G ad ado f ++ (wX2 G (ado 11) fsheet0 ++ (wX2 G (ado 12) fsheet1 ++ (wX2 G (ado 13) fsheet2 ++ (wX2 G (ado 14) fsheet3)))))) [15, 16, 17, 18, 19, 20, 21, 22, 23, 24, 25, 4, 5, 6, 7, 8, 9, 10, 11, 12, 13, 14] [0, 1, 2, 3, 26, 27, 28, 29, 30, 31, 32, 33] rfl rfl rfl rfl rfl rfl (va_runVN (As := [.ref ((ado 1) 0)]) (rest := []) hC (c_X0_copyFrom l G (ado 2) (ado 1) ftrial fnow ftrial_43 hc43 _) ⟨va_cnB 1 hts gX6_read_X0_copyFrom_n93 rfl rfl rfl (hE.2.2 (RX6, 93, yX0_copyFrom, "FeatherShares") (List.mem_of_getElem? (i := 8) rfl)) (hts (.initialized RX0) (by decide +kernel)) (by decide +kernel) ⟨Nat.le_of_ble_eq_true rfl, Nat.le_of_ble_eq_true rfl⟩, hts (.instanceMethod yX0_copyFrom) (by decide +kernel), hts (.selects RX0 yX0_copyFrom yX0_copyFrom) (by decide +kernel)⟩ ⟨Pc0_blind, va_recv hT hP (q0 := 15) (ci := 0) rfl rfl, fun U hU hW => Pc0_at (Wd := (wX0 G (ado 2) ftrial ++ (wX0 G (ado 1) fnow))) hE (hP.subm [15, 16, 17, 18, 19, 20, 21, 22, 23, 24, 25, 4, 5, 6, 7, 8, 9, 10, 11, 12, 13, 14] rfl) (hD.sub [15, 16, 17, 18, 19, 20, 21, 22, 23, 24, 25, 4, 5, 6, 7, 8, 9, 10, 11, 12, 13, 14] (by decide) rfl) hU hW⟩ rfl rfl hl.1 rfl (lv_room (Nat.le_of_ble_eq_true rfl)) dX6_read_43 ⟨Nat.zero_le _, Nat.zero_le _⟩) hS hA hP hD (fun H locs hP hD hS => ?_)
          refine lv_iconst (v := (nI 0)) hx hb dX6_read_46 (ic_0) ?_
          refine lv_istore (lv' := [(6, .int (nI 0)), (5, .ref ((ado 13) 0)), (0, .ref (ad 0)), (1, .int x1), (2, .int x2), (3, .int x3), (4, .int x4)]) hx hb dX6_read_47 hl (by decide) rfl (fun ls hl => ?_)
          refine lv_iconst (v := (nI 0)) hx hb dX6_read_49 (ic_0) ?_
          refine lv_istore (lv' := [(7, .int (nI 0)), (6, .int (nI 0)), (5, .ref ((ado 13) 0)), (0, .ref (ad 0)), (1, .int x1), (2, .int x2), (3, .int x3), (4, .int x4)]) hx hb dX6_read_50 hl (by decide) rfl (fun ls hl => ?_)
          refine lv_iconst (v := (nI 0)) hx hb dX6_read_52 (ic_0) ?_
          refine lv_istore (lv' := [(8, .int (nI 0)), (7, .int (nI 0)), (6, .int (nI 0)), (5, .ref ((ado 13) 0)), (0, .ref (ad 0)), (1, .int x1), (2, .int x2), (3, .int x3), (4, .int x4)]) hx hb dX6_read_53 hl (by decide) rfl (fun ls hl => ?_)
          obtain ⟨ze, hlp, hf⟩ := bd_e hf
          refine lp_W2 (p_X6_read_L55_2 f fnow fsheet0 fsheet1 fsheet2 fsheet3 x2 x3 x4) (fun z => match z with | (x6, x7, x8, ftrial_) => ∀ (H : Heap) (locs : List Loc) (ls : Array Slot), va_P G.1 vwCl (wX6 G ad ado f ++ (wX0 G (ado 1) fnow ++ (wX0 G (ado 2) ftrial_ ++ (wX2 G (ado 11) fsheet0 ++ (wX2 G (ado 12) fsheet1 ++ (wX2 G (ado 13) fsheet2 ++ (wX2 G (ado 14) fsheet3))))))) H → va_D A (wX6 G ad ado f ++ (wX0 G (ado 1) fnow ++ (wX0 G (ado 2) ftrial_ ++ (wX2 G (ado 11) fsheet0 ++ (wX2 G (ado 12) fsheet1 ++ (wX2 G (ado 13) fsheet2 ++ (wX2 G (ado 14) fsheet3))))))) → va_S A s.heap H locs → lv_has ls 10 [(0, .ref (ad 0)), (2, .int x2), (3, .int x3), (4, .int x4), (5, .ref ((ado 13) 0)), (6, .int x6), (7, .int x7), (8, .int x8)] → W p l e ({ frames := 6, cells := 0, slots := 0, locals := 129 }) s m args below meth c H locs 0 0 Q (F0 m 55 ls [])) (fun z => match z with | (y6_55, y7_55, ftrial_55) => ∀ (H : Heap) (locs : List Loc) (ls : Array Slot), va_P G.1 vwCl (wX6 G ad ado f ++ (wX0 G (ado 1) fnow ++ (wX0 G (ado 2) ftrial_55 ++ (wX2 G (ado 11) fsheet0 ++ (wX2 G (ado 12) fsheet1 ++ (wX2 G (ado 13) fsheet2 ++ (wX2 G (ado 14) fsheet3))))))) H → va_D A (wX6 G ad ado f ++ (wX0 G (ado 1) fnow ++ (wX0 G (ado 2) ftrial_55 ++ (wX2 G (ado 11) fsheet0 ++ (wX2 G (ado 12) fsheet1 ++ (wX2 G (ado 13) fsheet2 ++ (wX2 G (ado 14) fsheet3))))))) → va_S A s.heap H locs → lv_has ls 10 [(0, .ref (ad 0)), (6, .int y6_55), (7, .int y7_55)] → W p l e ({ frames := 6, cells := 0, slots := 0, locals := 129 }) s m args below meth c H locs 0 0 Q (F0 m 119 ls [])) (fun z => z = (r, fz, fnowz, ftrialz)) ?_ hlp ?_ _ _ _ hP hD hS (lv_sub hl [4, 6, 7, 8, 3, 2, 1, 0] rfl)
          · clear hlp hf hK hP hD hS hl
            intro K55 hW55 hX55 hO55
            rintro ⟨x6, x7, x8, ftrial_⟩ res hf hK H locs ls hP hD hS hl
            unfold p_X6_read_L55_2 at hf
            dsimp only at hf
            refine lv_iload hx hb dX6_read_55 (lv_at hl 7 rfl) ?_
            refine lv_iload hx hb dX6_read_57 (lv_at hl 3 rfl) ?_
            refine lv_icmp_ge (tgt := 119) hx hb dX6_read_59 (by decide) (fun hc => ?_) (fun hc => ?_)
            · have hf := if_t hf hc
              have hK9 := K_of hf hK
              have hK9 := hX55 _ hK9
              exact hK9 _ _ _ hP hD hS (lv_sub hl [0, 5, 6] rfl)
            · have hf := if_f hf hc
              refine lv_iload hx hb dX6_read_62 (lv_at hl 5 rfl) ?_
              refine lv_if_ne (tgt := 119) hx hb dX6_read_64 (by decide) (fun hc => ?_) (fun hc => ?_)
              · have hf := if_f hf hc
                have hK9 := K_of hf hK
                have hK9 := hX55 _ hK9
                exact hK9 _ _ _ hP hD hS (lv_sub hl [0, 5, 6] rfl)
              · have hf := if_t hf hc
                refine lv_iload_n hx hb dX6_read_67 rfl (lv_at hl 2 rfl) ?_
                refine lv_iconst (v := (nI 4)) hx hb dX6_read_68 (ic_4) ?_
                refine lv_iload hx hb dX6_read_69 (lv_at hl 7 rfl) ?_
                refine lv_imul hx hb dX6_read_71 ?_
                refine lv_iadd hx hb dX6_read_72 ?_
                refine lv_istore (lv' := [(9, .int (x3 + ((nI 4) * x8))), (0, .ref (ad 0)), (2, .int x2), (3, .int x3), (4, .int x4), (5, .ref ((ado 13) 0)), (6, .int x6), (7, .int x7), (8, .int x8)]) hx hb dX6_read_73 hl (by decide) rfl (fun ls hl => ?_)
                refine lv_aload hx hb dX6_read_75 (lv_at hl 5 rfl) ?_
                refine lv_iload_n hx hb dX6_read_77 rfl (lv_at hl 2 rfl) ?_
                refine lv_iload hx hb dX6_read_78 (lv_at hl 0 rfl) ?_
                obtain ⟨r80, hc80, hf⟩ := bd_e hf
                refine cl_i_ro (Wd := (wX6 G ad ado f ++ (wX0 G (ado 1) fnow ++ (wX0 G (ado 2) ftrial_ ++ (wX2 G (ado 11) fsheet0 ++ (wX2 G (ado 12) fsheet1 ++ (wX2 G (ado 13) fsheet2 ++ (wX2 G (ado 14) fsheet3)))))))) (Wc := (wX2 G (ado 13) fsheet2)) [30, 31] rfl (va_runVN (As := [.int x2, .int (x3 + ((nI 4) * x8))]) (rest := []) hC (c_X2_faultOfTrade l G (ado 13) fsheet2 x2 (x3 + ((nI 4) * x8)) r80 hc80 _) ⟨va_cnB 2 hts gX6_read_X2_faultOfTrade_n303 rfl rfl rfl (hE.2.2 (RX6, 303, yX2_faultOfTrade, "FeatherShares") (List.mem_of_getElem? (i := 35) rfl)) (hts (.initialized RX2) (by decide +kernel)) (by decide +kernel) ⟨Nat.le_of_ble_eq_true rfl, Nat.le_of_ble_eq_true rfl⟩, hts (.instanceMethod yX2_faultOfTrade) (by decide +kernel), hts (.selects RX2 yX2_faultOfTrade yX2_faultOfTrade) (by decide +kernel)⟩ ⟨Pc0_blind, va_recv hT hP (q0 := 30) (ci := 2) rfl rfl, fun U hU hW => Pc0_at (Wd := (wX2 G (ado 13) fsheet2)) hE (hP.subm [30, 31] rfl) (hD.sub [30, 31] (by decide) rfl) hU hW⟩ rfl rfl hl.1 rfl (lv_room (Nat.le_of_ble_eq_true rfl)) dX6_read_80 ⟨Nat.zero_le _, Nat.zero_le _⟩) hS hA hP hD (fun H locs hP hD hS => ?_)
                refine lv_istore (lv' := [(6, .int r80), (9, .int (x3 + ((nI 4) * x8))), (0, .ref (ad 0)), (2, .int x2), (3, .int x3), (4, .int x4), (5, .ref ((ado 13) 0)), (7, .int x7), (8, .int x8)]) hx hb dX6_read_83 hl (by decide) rfl (fun ls hl => ?_)
                refine lv_iload hx hb dX6_read_85 (lv_at hl 0 rfl) ?_
                refine lv_if_ne (tgt := 113) hx hb dX6_read_87 (by decide) (fun hc => ?_) (fun hc => ?_)
                · have hf := if_f hf hc
                  refine lv_iinc (v := (x8 + nI 1)) (lv' := [(8, .int (x8 + nI 1)), (6, .int r80), (9, .int (x3 + ((nI 4) * x8))), (0, .ref (ad 0)), (2, .int x2), (3, .int x3), (4, .int x4), (5, .ref ((ado 13) 0)), (7, .int x7)]) hx hb dX6_read_113 hl (k := 8) rfl (ii_x 1 _) (by decide) rfl (fun ls hl => ?_)
                  refine lv_goto (tgt := 55) hx hb dX6_read_116 (by decide) ?_
                  have hK9 := K_of hf hK
                  have hK9 := hW55 _ hK9
                  exact hK9 _ _ _ hP hD hS (lv_sub hl [3, 4, 5, 6, 7, 1, 8, 0] rfl)
                · have hf := if_t hf hc
                  refine lv_aload hx hb dX6_read_90 (lv_at hl 6 rfl) ?_
                  refine lv_iload hx hb dX6_read_92 (lv_at hl 1 rfl) ?_
                  refine lv_aload_n hx hb dX6_read_94 rfl (lv_at hl 2 rfl) ?_
                  refine va_get (C := RX6) (T := TX6) (N := 11) (ci := 6) (v := .ref ((ado 2) 0)) hx hb hts inX6 hown hT hP 0 rfl rfl 1 (Nat.le_of_ble_eq_true rfl) lk16 (fun _ h => h) rfl dX6_read_95 ?_
                  obtain ⟨⟨r98, ftrial_98⟩, hc98, hf⟩ := bd_e hf
                  try dsimp only at hf
                  refine cl_z_up (Wd := (wX6 G ad ado f ++ (wX0 G (ado 1) fnow ++ (wX0 G (ado 2) ftrial_ ++ (wX2 G (ado 11) fsheet0 ++ (wX2 G (ado 12) fsheet1 ++ (wX2 G (ado 13) fsheet2 ++ (wX2 G (ado 14) fsheet3)))))))) (Wc := (wX2 G (ado 13) fsheet2 ++ (wX0 G (ado 2) ftrial_))) (W' := (wX2 G (ado 13) fsheet2 ++ (wX0 G (ado 2) ftrial_98))) (W2 := (wX6 G ad ado f ++ (wX0 G (ado 1) fnow ++ (wX0 G (ado 2) ftrial_98 ++ (wX2 G (ado 11) fsheet0 ++ (wX2 G (ado 12) fsheet1 ++ (wX2 G (ado 13) fsheet2 ++ (wX2 G (ado 14) fsheet3)))))))) (Wr := (wX6 G ad ado f ++ (wX0 G (ado 1) fnow ++ (wX2 G (ado 11) fsheet0 ++ (wX2 G (ado 12) fsheet1 ++ (wX2 G (ado 14) fsheet3)))))) [30, 31, 15, 16, 17, 18, 19, 20, 21, 22, 23, 24, 25] [0, 1, 2, 3, 4, 5, 6, 7, 8, 9, 10, 11, 12, 13, 14, 26, 27, 28, 29, 32, 33] rfl rfl rfl rfl rfl rfl (va_runVN (As := [.int (x3 + ((nI 4) * x8)), .ref ((ado 2) 0)]) (rest := []) hC (c_X2_tradeOn l G (ado 13) (ado 2) fsheet2 ftrial_ (x3 + ((nI 4) * x8)) r98 ftrial_98 hc98 _) ⟨va_cnB 2 hts gX6_read_X2_tradeOn_n306 rfl rfl rfl (hE.2.2 (RX6, 306, yX2_tradeOn, "FeatherShares") (List.mem_of_getElem? (i := 36) rfl)) (hts (.initialized RX2) (by decide +kernel)) (by decide +kernel) ⟨Nat.le_of_ble_eq_true rfl, Nat.le_of_ble_eq_true rfl⟩, hts (.instanceMethod yX2_tradeOn) (by decide +kernel), hts (.selects RX2 yX2_tradeOn yX2_tradeOn) (by decide +kernel)⟩ ⟨Pc0_blind, va_recv hT hP (q0 := 30) (ci := 2) rfl rfl, fun U hU hW => Pc0_at (Wd := (wX2 G (ado 13) fsheet2 ++ (wX0 G (ado 2) ftrial_))) hE (hP.subm [30, 31, 15, 16, 17, 18, 19, 20, 21, 22, 23, 24, 25] rfl) (hD.sub [30, 31, 15, 16, 17, 18, 19, 20, 21, 22, 23, 24, 25] (by decide) rfl) hU hW⟩ rfl rfl hl.1 rfl (lv_room (Nat.le_of_ble_eq_true rfl)) dX6_read_98 ⟨Nat.zero_le _, Nat.zero_le _⟩) hS hA hP hD (fun H locs hn98 hP hD hS => ?_)
                  refine lv_if_ne (tgt := 110) hx hb dX6_read_101 (by decide) (fun hc => ?_) (fun hc => ?_)
                  · have hf := if_f hf hc
                    refine lv_iinc (v := (x7 + nI 1)) (lv' := [(7, .int (x7 + nI 1)), (6, .int r80), (9, .int (x3 + ((nI 4) * x8))), (0, .ref (ad 0)), (2, .int x2), (3, .int x3), (4, .int x4), (5, .ref ((ado 13) 0)), (8, .int x8)]) hx hb dX6_read_110 hl (k := 7) rfl (ii_x 1 _) (by decide) rfl (fun ls hl => ?_)
                    refine lv_iinc (v := (x8 + nI 1)) (lv' := [(8, .int (x8 + nI 1)), (7, .int (x7 + nI 1)), (6, .int r80), (9, .int (x3 + ((nI 4) * x8))), (0, .ref (ad 0)), (2, .int x2), (3, .int x3), (4, .int x4), (5, .ref ((ado 13) 0))]) hx hb dX6_read_113 hl (k := 8) rfl (ii_x 1 _) (by decide) rfl (fun ls hl => ?_)
                    refine lv_goto (tgt := 55) hx hb dX6_read_116 (by decide) ?_
                    have hK9 := K_of hf hK
                    have hK9 := hW55 _ hK9
                    exact hK9 _ _ _ hP hD hS (lv_sub hl [4, 5, 6, 7, 8, 2, 1, 0] rfl)
                  · have hf := if_t hf hc
                    refine lv_bipush (v := (-20 : Int32)) hx hb dX6_read_104 (bi_m20) ?_
                    refine lv_iload hx hb dX6_read_106 (lv_at hl 8 rfl) ?_
                    refine lv_isub hx hb dX6_read_108 ?_
                    have hK9 := K_of hf hK
                    have hK9 := hO55 _ hK9
                    exact hRet ((-20 : Int32) - x8) f fnow ftrial_98 _ _ _ _ hK9 dX6_read_109 hP hD hS
          · rcases ze with ⟨y6_55, y7_55, ftrial_55⟩ | zo
            · try simp only [Sum.elim_inl] at hf
              try dsimp only at hf
              show ∀ (H : Heap) (locs : List Loc) (ls : Array Slot), va_P G.1 vwCl (wX6 G ad ado f ++ (wX0 G (ado 1) fnow ++ (wX0 G (ado 2) ftrial_55 ++ (wX2 G (ado 11) fsheet0 ++ (wX2 G (ado 12) fsheet1 ++ (wX2 G (ado 13) fsheet2 ++ (wX2 G (ado 14) fsheet3))))))) H → va_D A (wX6 G ad ado f ++ (wX0 G (ado 1) fnow ++ (wX0 G (ado 2) ftrial_55 ++ (wX2 G (ado 11) fsheet0 ++ (wX2 G (ado 12) fsheet1 ++ (wX2 G (ado 13) fsheet2 ++ (wX2 G (ado 14) fsheet3))))))) → va_S A s.heap H locs → lv_has ls 10 [(0, .ref (ad 0)), (6, .int y6_55), (7, .int y7_55)] → W p l e ({ frames := 6, cells := 0, slots := 0, locals := 129 }) s m args below meth c H locs 0 0 Q (F0 m 119 ls [])
              intro H locs ls hP hD hS hl
              exact hB119 f fnow ftrial_55 y6_55 y7_55 _ hf hK _ _ _ hP hD hS (lv_sub hl [0, 1, 2] rfl)
            · have hK9 := K0_of (show some zo = some _ from hf) hK
              exact hK9
        rw [if_neg hc32] at hf
        by_cases hc32 : x1 = nI 3
        · rw [if_pos hc32] at hf
          refine va_aldq hx hb hT hP 3 3 rfl rfl (by rw [hc32]; exact vp_in_nI (by decide) (by decide)) dX6_read_32 ?_
          refine W.eq (g2 := F0 m 33 ls [.ref ((ado 14) 0)]) (by rw [hc32]; rfl) ?_
          refine lv_astore (lv' := [(5, .ref ((ado 14) 0)), (0, .ref (ad 0)), (1, .int x1), (2, .int x2), (3, .int x3), (4, .int x4)]) hx hb dX6_read_33 hl (by decide) rfl (fun ls hl => ?_)
          refine lv_aload_n hx hb dX6_read_35 rfl (lv_at hl 1 rfl) ?_
          refine va_get (C := RX6) (T := TX6) (N := 11) (ci := 6) (v := .ref ((ado 2) 0)) hx hb hts inX6 hown hT hP 0 rfl rfl 1 (Nat.le_of_ble_eq_true rfl) lk16 (fun _ h => h) rfl dX6_read_36 ?_
          refine lv_aload_n hx hb dX6_read_39 rfl (lv_at hl 1 rfl) ?_
          refine va_get (C := RX6) (T := TX6) (N := 11) (ci := 6) (v := .ref ((ado 1) 0)) hx hb hts inX6 hown hT hP 0 rfl rfl 0 (Nat.le_of_ble_eq_true rfl) lk12 (fun _ h => h) rfl dX6_read_40 ?_
          obtain ⟨ftrial_43, hc43, hf⟩ := bd_e hf
          refine cl_v_up (Wd := (wX6 G ad ado f ++ (wX0 G (ado 1) fnow ++ (wX0 G (ado 2) ftrial ++ (wX2 G (ado 11) fsheet0 ++ (wX2 G (ado 12) fsheet1 ++ (wX2 G (ado 13) fsheet2 ++ (wX2 G (ado 14) fsheet3)))))))) (Wc := (wX0 G (ado 2) ftrial ++ (wX0 G (ado 1) fnow))) (W' := (wX0 G (ado 2) ftrial_43 ++ (wX0 G (ado 1) fnow))) (W2 := (wX6 G ad ado f ++ (wX0 G (ado 1) fnow ++ (wX0 G (ado 2) ftrial_43 ++ (wX2 G (ado 11) fsheet0 ++ (wX2 G (ado 12) fsheet1 ++ (wX2 G (ado 13) fsheet2 ++ (wX2 G (ado 14) fsheet3)))))))) (Wr := (wX6 G ad ado f ++ (wX2 G (ado 11) fsheet0 ++ (wX2 G (ado 12) fsheet1 ++ (wX2 G (ado 13) fsheet2 ++ (wX2 G (ado 14) fsheet3)))))) [15, 16, 17, 18, 19, 20, 21, 22, 23, 24, 25, 4, 5, 6, 7, 8, 9, 10, 11, 12, 13, 14] [0, 1, 2, 3, 26, 27, 28, 29, 30, 31, 32, 33] rfl rfl rfl rfl rfl rfl (va_runVN (As := [.ref ((ado 1) 0)]) (rest := []) hC (c_X0_copyFrom l G (ado 2) (ado 1) ftrial fnow ftrial_43 hc43 _) ⟨va_cnB 1 hts gX6_read_X0_copyFrom_n93 rfl rfl rfl (hE.2.2 (RX6, 93, yX0_copyFrom, "FeatherShares") (List.mem_of_getElem? (i := 8) rfl)) (hts (.initialized RX0) (by decide +kernel)) (by decide +kernel) ⟨Nat.le_of_ble_eq_true rfl, Nat.le_of_ble_eq_true rfl⟩, hts (.instanceMethod yX0_copyFrom) (by decide +kernel), hts (.selects RX0 yX0_copyFrom yX0_copyFrom) (by decide +kernel)⟩ ⟨Pc0_blind, va_recv hT hP (q0 := 15) (ci := 0) rfl rfl, fun U hU hW => Pc0_at (Wd := (wX0 G (ado 2) ftrial ++ (wX0 G (ado 1) fnow))) hE (hP.subm [15, 16, 17, 18, 19, 20, 21, 22, 23, 24, 25, 4, 5, 6, 7, 8, 9, 10, 11, 12, 13, 14] rfl) (hD.sub [15, 16, 17, 18, 19, 20, 21, 22, 23, 24, 25, 4, 5, 6, 7, 8, 9, 10, 11, 12, 13, 14] (by decide) rfl) hU hW⟩ rfl rfl hl.1 rfl (lv_room (Nat.le_of_ble_eq_true rfl)) dX6_read_43 ⟨Nat.zero_le _, Nat.zero_le _⟩) hS hA hP hD (fun H locs hP hD hS => ?_)
          refine lv_iconst (v := (nI 0)) hx hb dX6_read_46 (ic_0) ?_
          refine lv_istore (lv' := [(6, .int (nI 0)), (5, .ref ((ado 14) 0)), (0, .ref (ad 0)), (1, .int x1), (2, .int x2), (3, .int x3), (4, .int x4)]) hx hb dX6_read_47 hl (by decide) rfl (fun ls hl => ?_)
          refine lv_iconst (v := (nI 0)) hx hb dX6_read_49 (ic_0) ?_
          refine lv_istore (lv' := [(7, .int (nI 0)), (6, .int (nI 0)), (5, .ref ((ado 14) 0)), (0, .ref (ad 0)), (1, .int x1), (2, .int x2), (3, .int x3), (4, .int x4)]) hx hb dX6_read_50 hl (by decide) rfl (fun ls hl => ?_)
          refine lv_iconst (v := (nI 0)) hx hb dX6_read_52 (ic_0) ?_
          refine lv_istore (lv' := [(8, .int (nI 0)), (7, .int (nI 0)), (6, .int (nI 0)), (5, .ref ((ado 14) 0)), (0, .ref (ad 0)), (1, .int x1), (2, .int x2), (3, .int x3), (4, .int x4)]) hx hb dX6_read_53 hl (by decide) rfl (fun ls hl => ?_)
          obtain ⟨ze, hlp, hf⟩ := bd_e hf
          refine lp_W2 (p_X6_read_L55_3 f fnow fsheet0 fsheet1 fsheet2 fsheet3 x2 x3 x4) (fun z => match z with | (x6, x7, x8, ftrial_) => ∀ (H : Heap) (locs : List Loc) (ls : Array Slot), va_P G.1 vwCl (wX6 G ad ado f ++ (wX0 G (ado 1) fnow ++ (wX0 G (ado 2) ftrial_ ++ (wX2 G (ado 11) fsheet0 ++ (wX2 G (ado 12) fsheet1 ++ (wX2 G (ado 13) fsheet2 ++ (wX2 G (ado 14) fsheet3))))))) H → va_D A (wX6 G ad ado f ++ (wX0 G (ado 1) fnow ++ (wX0 G (ado 2) ftrial_ ++ (wX2 G (ado 11) fsheet0 ++ (wX2 G (ado 12) fsheet1 ++ (wX2 G (ado 13) fsheet2 ++ (wX2 G (ado 14) fsheet3))))))) → va_S A s.heap H locs → lv_has ls 10 [(0, .ref (ad 0)), (2, .int x2), (3, .int x3), (4, .int x4), (5, .ref ((ado 14) 0)), (6, .int x6), (7, .int x7), (8, .int x8)] → W p l e ({ frames := 6, cells := 0, slots := 0, locals := 129 }) s m args below meth c H locs 0 0 Q (F0 m 55 ls [])) (fun z => match z with | (y6_55, y7_55, ftrial_55) => ∀ (H : Heap) (locs : List Loc) (ls : Array Slot), va_P G.1 vwCl (wX6 G ad ado f ++ (wX0 G (ado 1) fnow ++ (wX0 G (ado 2) ftrial_55 ++ (wX2 G (ado 11) fsheet0 ++ (wX2 G (ado 12) fsheet1 ++ (wX2 G (ado 13) fsheet2 ++ (wX2 G (ado 14) fsheet3))))))) H → va_D A (wX6 G ad ado f ++ (wX0 G (ado 1) fnow ++ (wX0 G (ado 2) ftrial_55 ++ (wX2 G (ado 11) fsheet0 ++ (wX2 G (ado 12) fsheet1 ++ (wX2 G (ado 13) fsheet2 ++ (wX2 G (ado 14) fsheet3))))))) → va_S A s.heap H locs → lv_has ls 10 [(0, .ref (ad 0)), (6, .int y6_55), (7, .int y7_55)] → W p l e ({ frames := 6, cells := 0, slots := 0, locals := 129 }) s m args below meth c H locs 0 0 Q (F0 m 119 ls [])) (fun z => z = (r, fz, fnowz, ftrialz)) ?_ hlp ?_ _ _ _ hP hD hS (lv_sub hl [4, 6, 7, 8, 3, 2, 1, 0] rfl)
          · clear hlp hf hK hP hD hS hl
            intro K55 hW55 hX55 hO55
            rintro ⟨x6, x7, x8, ftrial_⟩ res hf hK H locs ls hP hD hS hl
            unfold p_X6_read_L55_3 at hf
            dsimp only at hf
            refine lv_iload hx hb dX6_read_55 (lv_at hl 7 rfl) ?_
            refine lv_iload hx hb dX6_read_57 (lv_at hl 3 rfl) ?_
            refine lv_icmp_ge (tgt := 119) hx hb dX6_read_59 (by decide) (fun hc => ?_) (fun hc => ?_)
            · have hf := if_t hf hc
              have hK9 := K_of hf hK
              have hK9 := hX55 _ hK9
              exact hK9 _ _ _ hP hD hS (lv_sub hl [0, 5, 6] rfl)
            · have hf := if_f hf hc
              refine lv_iload hx hb dX6_read_62 (lv_at hl 5 rfl) ?_
              refine lv_if_ne (tgt := 119) hx hb dX6_read_64 (by decide) (fun hc => ?_) (fun hc => ?_)
              · have hf := if_f hf hc
                have hK9 := K_of hf hK
                have hK9 := hX55 _ hK9
                exact hK9 _ _ _ hP hD hS (lv_sub hl [0, 5, 6] rfl)
              · have hf := if_t hf hc
                refine lv_iload_n hx hb dX6_read_67 rfl (lv_at hl 2 rfl) ?_
                refine lv_iconst (v := (nI 4)) hx hb dX6_read_68 (ic_4) ?_
                refine lv_iload hx hb dX6_read_69 (lv_at hl 7 rfl) ?_
                refine lv_imul hx hb dX6_read_71 ?_
                refine lv_iadd hx hb dX6_read_72 ?_
                refine lv_istore (lv' := [(9, .int (x3 + ((nI 4) * x8))), (0, .ref (ad 0)), (2, .int x2), (3, .int x3), (4, .int x4), (5, .ref ((ado 14) 0)), (6, .int x6), (7, .int x7), (8, .int x8)]) hx hb dX6_read_73 hl (by decide) rfl (fun ls hl => ?_)
                refine lv_aload hx hb dX6_read_75 (lv_at hl 5 rfl) ?_
                refine lv_iload_n hx hb dX6_read_77 rfl (lv_at hl 2 rfl) ?_
                refine lv_iload hx hb dX6_read_78 (lv_at hl 0 rfl) ?_
                obtain ⟨r80, hc80, hf⟩ := bd_e hf
                refine cl_i_ro (Wd := (wX6 G ad ado f ++ (wX0 G (ado 1) fnow ++ (wX0 G (ado 2) ftrial_ ++ (wX2 G (ado 11) fsheet0 ++ (wX2 G (ado 12) fsheet1 ++ (wX2 G (ado 13) fsheet2 ++ (wX2 G (ado 14) fsheet3)))))))) (Wc := (wX2 G (ado 14) fsheet3)) [32, 33] rfl (va_runVN (As := [.int x2, .int (x3 + ((nI 4) * x8))]) (rest := []) hC (c_X2_faultOfTrade l G (ado 14) fsheet3 x2 (x3 + ((nI 4) * x8)) r80 hc80 _) ⟨va_cnB 2 hts gX6_read_X2_faultOfTrade_n303 rfl rfl rfl (hE.2.2 (RX6, 303, yX2_faultOfTrade, "FeatherShares") (List.mem_of_getElem? (i := 35) rfl)) (hts (.initialized RX2) (by decide +kernel)) (by decide +kernel) ⟨Nat.le_of_ble_eq_true rfl, Nat.le_of_ble_eq_true rfl⟩, hts (.instanceMethod yX2_faultOfTrade) (by decide +kernel), hts (.selects RX2 yX2_faultOfTrade yX2_faultOfTrade) (by decide +kernel)⟩ ⟨Pc0_blind, va_recv hT hP (q0 := 32) (ci := 2) rfl rfl, fun U hU hW => Pc0_at (Wd := (wX2 G (ado 14) fsheet3)) hE (hP.subm [32, 33] rfl) (hD.sub [32, 33] (by decide) rfl) hU hW⟩ rfl rfl hl.1 rfl (lv_room (Nat.le_of_ble_eq_true rfl)) dX6_read_80 ⟨Nat.zero_le _, Nat.zero_le _⟩) hS hA hP hD (fun H locs hP hD hS => ?_)
                refine lv_istore (lv' := [(6, .int r80), (9, .int (x3 + ((nI 4) * x8))), (0, .ref (ad 0)), (2, .int x2), (3, .int x3), (4, .int x4), (5, .ref ((ado 14) 0)), (7, .int x7), (8, .int x8)]) hx hb dX6_read_83 hl (by decide) rfl (fun ls hl => ?_)
                refine lv_iload hx hb dX6_read_85 (lv_at hl 0 rfl) ?_
                refine lv_if_ne (tgt := 113) hx hb dX6_read_87 (by decide) (fun hc => ?_) (fun hc => ?_)
                · have hf := if_f hf hc
                  refine lv_iinc (v := (x8 + nI 1)) (lv' := [(8, .int (x8 + nI 1)), (6, .int r80), (9, .int (x3 + ((nI 4) * x8))), (0, .ref (ad 0)), (2, .int x2), (3, .int x3), (4, .int x4), (5, .ref ((ado 14) 0)), (7, .int x7)]) hx hb dX6_read_113 hl (k := 8) rfl (ii_x 1 _) (by decide) rfl (fun ls hl => ?_)
                  refine lv_goto (tgt := 55) hx hb dX6_read_116 (by decide) ?_
                  have hK9 := K_of hf hK
                  have hK9 := hW55 _ hK9
                  exact hK9 _ _ _ hP hD hS (lv_sub hl [3, 4, 5, 6, 7, 1, 8, 0] rfl)
                · have hf := if_t hf hc
                  refine lv_aload hx hb dX6_read_90 (lv_at hl 6 rfl) ?_
                  refine lv_iload hx hb dX6_read_92 (lv_at hl 1 rfl) ?_
                  refine lv_aload_n hx hb dX6_read_94 rfl (lv_at hl 2 rfl) ?_
                  refine va_get (C := RX6) (T := TX6) (N := 11) (ci := 6) (v := .ref ((ado 2) 0)) hx hb hts inX6 hown hT hP 0 rfl rfl 1 (Nat.le_of_ble_eq_true rfl) lk16 (fun _ h => h) rfl dX6_read_95 ?_
                  obtain ⟨⟨r98, ftrial_98⟩, hc98, hf⟩ := bd_e hf
                  try dsimp only at hf
                  refine cl_z_up (Wd := (wX6 G ad ado f ++ (wX0 G (ado 1) fnow ++ (wX0 G (ado 2) ftrial_ ++ (wX2 G (ado 11) fsheet0 ++ (wX2 G (ado 12) fsheet1 ++ (wX2 G (ado 13) fsheet2 ++ (wX2 G (ado 14) fsheet3)))))))) (Wc := (wX2 G (ado 14) fsheet3 ++ (wX0 G (ado 2) ftrial_))) (W' := (wX2 G (ado 14) fsheet3 ++ (wX0 G (ado 2) ftrial_98))) (W2 := (wX6 G ad ado f ++ (wX0 G (ado 1) fnow ++ (wX0 G (ado 2) ftrial_98 ++ (wX2 G (ado 11) fsheet0 ++ (wX2 G (ado 12) fsheet1 ++ (wX2 G (ado 13) fsheet2 ++ (wX2 G (ado 14) fsheet3)))))))) (Wr := (wX6 G ad ado f ++ (wX0 G (ado 1) fnow ++ (wX2 G (ado 11) fsheet0 ++ (wX2 G (ado 12) fsheet1 ++ (wX2 G (ado 13) fsheet2)))))) [32, 33, 15, 16, 17, 18, 19, 20, 21, 22, 23, 24, 25] [0, 1, 2, 3, 4, 5, 6, 7, 8, 9, 10, 11, 12, 13, 14, 26, 27, 28, 29, 30, 31] rfl rfl rfl rfl rfl rfl (va_runVN (As := [.int (x3 + ((nI 4) * x8)), .ref ((ado 2) 0)]) (rest := []) hC (c_X2_tradeOn l G (ado 14) (ado 2) fsheet3 ftrial_ (x3 + ((nI 4) * x8)) r98 ftrial_98 hc98 _) ⟨va_cnB 2 hts gX6_read_X2_tradeOn_n306 rfl rfl rfl (hE.2.2 (RX6, 306, yX2_tradeOn, "FeatherShares") (List.mem_of_getElem? (i := 36) rfl)) (hts (.initialized RX2) (by decide +kernel)) (by decide +kernel) ⟨Nat.le_of_ble_eq_true rfl, Nat.le_of_ble_eq_true rfl⟩, hts (.instanceMethod yX2_tradeOn) (by decide +kernel), hts (.selects RX2 yX2_tradeOn yX2_tradeOn) (by decide +kernel)⟩ ⟨Pc0_blind, va_recv hT hP (q0 := 32) (ci := 2) rfl rfl, fun U hU hW => Pc0_at (Wd := (wX2 G (ado 14) fsheet3 ++ (wX0 G (ado 2) ftrial_))) hE (hP.subm [32, 33, 15, 16, 17, 18, 19, 20, 21, 22, 23, 24, 25] rfl) (hD.sub [32, 33, 15, 16, 17, 18, 19, 20, 21, 22, 23, 24, 25] (by decide) rfl) hU hW⟩ rfl rfl hl.1 rfl (lv_room (Nat.le_of_ble_eq_true rfl)) dX6_read_98 ⟨Nat.zero_le _, Nat.zero_le _⟩) hS hA hP hD (fun H locs hn98 hP hD hS => ?_)
                  refine lv_if_ne (tgt := 110) hx hb dX6_read_101 (by decide) (fun hc => ?_) (fun hc => ?_)
                  · have hf := if_f hf hc
                    refine lv_iinc (v := (x7 + nI 1)) (lv' := [(7, .int (x7 + nI 1)), (6, .int r80), (9, .int (x3 + ((nI 4) * x8))), (0, .ref (ad 0)), (2, .int x2), (3, .int x3), (4, .int x4), (5, .ref ((ado 14) 0)), (8, .int x8)]) hx hb dX6_read_110 hl (k := 7) rfl (ii_x 1 _) (by decide) rfl (fun ls hl => ?_)
                    refine lv_iinc (v := (x8 + nI 1)) (lv' := [(8, .int (x8 + nI 1)), (7, .int (x7 + nI 1)), (6, .int r80), (9, .int (x3 + ((nI 4) * x8))), (0, .ref (ad 0)), (2, .int x2), (3, .int x3), (4, .int x4), (5, .ref ((ado 14) 0))]) hx hb dX6_read_113 hl (k := 8) rfl (ii_x 1 _) (by decide) rfl (fun ls hl => ?_)
                    refine lv_goto (tgt := 55) hx hb dX6_read_116 (by decide) ?_
                    have hK9 := K_of hf hK
                    have hK9 := hW55 _ hK9
                    exact hK9 _ _ _ hP hD hS (lv_sub hl [4, 5, 6, 7, 8, 2, 1, 0] rfl)
                  · have hf := if_t hf hc
                    refine lv_bipush (v := (-20 : Int32)) hx hb dX6_read_104 (bi_m20) ?_
                    refine lv_iload hx hb dX6_read_106 (lv_at hl 8 rfl) ?_
                    refine lv_isub hx hb dX6_read_108 ?_
                    have hK9 := K_of hf hK
                    have hK9 := hO55 _ hK9
                    exact hRet ((-20 : Int32) - x8) f fnow ftrial_98 _ _ _ _ hK9 dX6_read_109 hP hD hS
          · rcases ze with ⟨y6_55, y7_55, ftrial_55⟩ | zo
            · try simp only [Sum.elim_inl] at hf
              try dsimp only at hf
              show ∀ (H : Heap) (locs : List Loc) (ls : Array Slot), va_P G.1 vwCl (wX6 G ad ado f ++ (wX0 G (ado 1) fnow ++ (wX0 G (ado 2) ftrial_55 ++ (wX2 G (ado 11) fsheet0 ++ (wX2 G (ado 12) fsheet1 ++ (wX2 G (ado 13) fsheet2 ++ (wX2 G (ado 14) fsheet3))))))) H → va_D A (wX6 G ad ado f ++ (wX0 G (ado 1) fnow ++ (wX0 G (ado 2) ftrial_55 ++ (wX2 G (ado 11) fsheet0 ++ (wX2 G (ado 12) fsheet1 ++ (wX2 G (ado 13) fsheet2 ++ (wX2 G (ado 14) fsheet3))))))) → va_S A s.heap H locs → lv_has ls 10 [(0, .ref (ad 0)), (6, .int y6_55), (7, .int y7_55)] → W p l e ({ frames := 6, cells := 0, slots := 0, locals := 129 }) s m args below meth c H locs 0 0 Q (F0 m 119 ls [])
              intro H locs ls hP hD hS hl
              exact hB119 f fnow ftrial_55 y6_55 y7_55 _ hf hK _ _ _ hP hD hS (lv_sub hl [0, 1, 2] rfl)
            · have hK9 := K0_of (show some zo = some _ from hf) hK
              exact hK9
        rw [if_neg hc32] at hf
        cases hf
      · have hf := if_t hf hc
        refine lv_iconst (v := (-1 : Int32)) hx hb dX6_read_25 (ic_m1) ?_
        have hK9 := K0_of hf hK
        exact hRet (-1 : Int32) f fnow ftrial _ _ _ _ hK9 dX6_read_26 hP hD hS
noncomputable def p_X6_torn (f : Mem) : Option (Int32) :=
  some (f 0 1)
set_option maxHeartbeats 4000000 in
set_option maxRecDepth 100000 in
theorem c_X6_torn (l : Launch) (G : Gt) (ad : Nat → Nat) (ado : Nat → Nat → Nat) (f : Mem) (r : Int32) (hf : p_X6_torn f = some r) (sz : Nat) : Met l yX6_torn wsX6_torn ({ frames := 1, cells := 0, slots := 0, locals := 12 }) (Pc0 G sz [.ref (ad 0)] (wX6 G ad ado f)) (Qi0 G (va_A (wX6 G ad ado f) sz) r (wX6 G ad ado f)) 0 0 (va_A (wX6 G ad ado f) sz) := by
  refine metP (Qf := fun A => Qi0 G A r (wX6 G ad ado f)) cX6_torn 1 (some .int) (by decide) rfl (Nat.le_of_ble_eq_true rfl) ?_
  intro p e s m below meth c A ls hC hr hlocks hin hE hA hsz hP hD hS hl
  generalize hargs : ([.ref (ad 0)] : List Value).toArray = args at hC ⊢
  obtain ⟨hx, hb, hml, hown, hts⟩ := id hC
  have hT : va_K G.1 vwCl (tyL G) s := hE.1
  have hRet : ∀ (r9 : Int32) (H : Heap) (locs : List Loc) (ls : Array Slot) (pc : Nat) (hK9 : r9 = r) (hdg : decode cX6_torn pc = .ok (.ireturn, 1)), va_P G.1 vwCl (wX6 G ad ado f) H → va_D A (wX6 G ad ado f) → va_S A s.heap H locs → W p l e ({ frames := 1, cells := 0, slots := 0, locals := 12 }) s m args below meth c H locs 0 0 (MQ below (Qi0 G A r (wX6 G ad ado f)) args s 0 0 A) (F0 m pc ls [.int r9]) := by
    intro r9 H locs ls pc hK9 hdg hP hD hS
    cases hK9
    exact W.iret hx hb hr (fun t ht hW => ⟨⟨r, (), rfl, rfl, by rw [ht]; exact hP, hD⟩, hS.F ht⟩) hS.2.2 hdg hlocks
  generalize MQ below (Qi0 G A r (wX6 G ad ado f)) args s 0 0 A = Q at hRet ⊢
  have lk65 := hts (.fieldLink RX6 65 "FeatherShares" "faultOfRead" "I") (by decide +kernel)
  have inX6 : ∀ w ∈ u_ws RX6 TX6 11, w ∈ wsX6_torn := by decide +kernel
  have hl : lv_has ls 1 [(0, .ref (ad 0))] := hl
  have hK0 : r = r := rfl
  obtain ⟨res, hres, hK⟩ : ∃ res, p_X6_torn f = some res ∧ res = r := ⟨_, hf, rfl⟩
  clear hf
  have hf := hres
  clear hres
  unfold p_X6_torn at hf
  refine lv_aload_n hx hb dX6_torn_0 rfl (lv_at hl 0 rfl) ?_
  refine va_get (C := RX6) (T := TX6) (N := 11) (ci := 6) (v := .int (f 0 1)) hx hb hts inX6 hown hT hP 0 rfl rfl 10 (Nat.le_of_ble_eq_true rfl) lk65 (fun _ h => h) rfl dX6_torn_1 ?_
  have hK9 := K0_of hf hK
  exact hRet (f 0 1) _ _ _ _ hK9 dX6_torn_4 hP hD hS
noncomputable def p_X6_count (f : Mem) (fnow : Mem) (ftape : Mem) (fsightings : Mem) (fsheet0 : Mem) (fsheet1 : Mem) (fsheet2 : Mem) (fsheet3 : Mem) (x1 : Int32) : Option (Int32) :=
  if x1 = (nI 0) then
    (some (fsightings 0 0))
  else if x1 = (nI 1) then
    (Option.bind (p_J6_bitCount_0f7a4 (f 0 0)) <| fun r52 =>
     some r52)
  else if x1 = (nI 2) then
    (some (ftape 0 0))
  else if x1 = (nI 3) then
    (if (fsheet0 0 0) = 0 then
       (some (fsheet0 0 2))
     else
       (some (-4 : Int32)))
  else if x1 = (nI 4) then
    (Option.bind (p_X6_sumOf 15 (fnow 4)) <| fun r98 =>
     some r98)
  else if x1 = (nI 5) then
    (Option.bind (p_X0_feathersOfPlan fnow) <| fun r106 =>
     some r106)
  else
    (some (-1 : Int32))
set_option maxHeartbeats 4000000 in
set_option maxRecDepth 100000 in
theorem c_X6_count (l : Launch) (G : Gt) (ad : Nat → Nat) (ado : Nat → Nat → Nat) (f : Mem) (fnow : Mem) (ftape : Mem) (fsightings : Mem) (fsheet0 : Mem) (fsheet1 : Mem) (fsheet2 : Mem) (fsheet3 : Mem) (x1 : Int32) (r : Int32) (hf : p_X6_count f fnow ftape fsightings fsheet0 fsheet1 fsheet2 fsheet3 x1 = some r) (sz : Nat) : Met l yX6_count wsX6_count ({ frames := 2, cells := 0, slots := 0, locals := 37 }) (Pc0 G sz [.ref (ad 0), .int x1] (wX6 G ad ado f ++ (wX0 G (ado 1) fnow ++ (wX4 G (ado 5) ftape ++ (wX3 G (ado 8) fsightings ++ (wX2 G (ado 11) fsheet0 ++ (wX2 G (ado 12) fsheet1 ++ (wX2 G (ado 13) fsheet2 ++ (wX2 G (ado 14) fsheet3))))))))) (Qi0 G (va_A (wX6 G ad ado f ++ (wX0 G (ado 1) fnow ++ (wX4 G (ado 5) ftape ++ (wX3 G (ado 8) fsightings ++ (wX2 G (ado 11) fsheet0 ++ (wX2 G (ado 12) fsheet1 ++ (wX2 G (ado 13) fsheet2 ++ (wX2 G (ado 14) fsheet3)))))))) sz) r (wX6 G ad ado f ++ (wX0 G (ado 1) fnow ++ (wX4 G (ado 5) ftape ++ (wX3 G (ado 8) fsightings ++ (wX2 G (ado 11) fsheet0 ++ (wX2 G (ado 12) fsheet1 ++ (wX2 G (ado 13) fsheet2 ++ (wX2 G (ado 14) fsheet3))))))))) 0 0 (va_A (wX6 G ad ado f ++ (wX0 G (ado 1) fnow ++ (wX4 G (ado 5) ftape ++ (wX3 G (ado 8) fsightings ++ (wX2 G (ado 11) fsheet0 ++ (wX2 G (ado 12) fsheet1 ++ (wX2 G (ado 13) fsheet2 ++ (wX2 G (ado 14) fsheet3)))))))) sz) := by
  refine metP (Qf := fun A => Qi0 G A r (wX6 G ad ado f ++ (wX0 G (ado 1) fnow ++ (wX4 G (ado 5) ftape ++ (wX3 G (ado 8) fsightings ++ (wX2 G (ado 11) fsheet0 ++ (wX2 G (ado 12) fsheet1 ++ (wX2 G (ado 13) fsheet2 ++ (wX2 G (ado 14) fsheet3))))))))) cX6_count 2 (some .int) (by decide) rfl (Nat.le_of_ble_eq_true rfl) ?_
  intro p e s m below meth c A ls hC hr hlocks hin hE hA hsz hP hD hS hl
  generalize hargs : ([.ref (ad 0), .int x1] : List Value).toArray = args at hC ⊢
  obtain ⟨hx, hb, hml, hown, hts⟩ := id hC
  have hT : va_K G.1 vwCl (tyL G) s := hE.1
  have hRet : ∀ (r9 : Int32) (H : Heap) (locs : List Loc) (ls : Array Slot) (pc : Nat) (hK9 : r9 = r) (hdg : decode cX6_count pc = .ok (.ireturn, 1)), va_P G.1 vwCl (wX6 G ad ado f ++ (wX0 G (ado 1) fnow ++ (wX4 G (ado 5) ftape ++ (wX3 G (ado 8) fsightings ++ (wX2 G (ado 11) fsheet0 ++ (wX2 G (ado 12) fsheet1 ++ (wX2 G (ado 13) fsheet2 ++ (wX2 G (ado 14) fsheet3)))))))) H → va_D A (wX6 G ad ado f ++ (wX0 G (ado 1) fnow ++ (wX4 G (ado 5) ftape ++ (wX3 G (ado 8) fsightings ++ (wX2 G (ado 11) fsheet0 ++ (wX2 G (ado 12) fsheet1 ++ (wX2 G (ado 13) fsheet2 ++ (wX2 G (ado 14) fsheet3)))))))) → va_S A s.heap H locs → W p l e ({ frames := 2, cells := 0, slots := 0, locals := 37 }) s m args below meth c H locs 0 0 (MQ below (Qi0 G A r (wX6 G ad ado f ++ (wX0 G (ado 1) fnow ++ (wX4 G (ado 5) ftape ++ (wX3 G (ado 8) fsightings ++ (wX2 G (ado 11) fsheet0 ++ (wX2 G (ado 12) fsheet1 ++ (wX2 G (ado 13) fsheet2 ++ (wX2 G (ado 14) fsheet3))))))))) args s 0 0 A) (F0 m pc ls [.int r9]) := by
    intro r9 H locs ls pc hK9 hdg hP hD hS
    cases hK9
    exact W.iret hx hb hr (fun t ht hW => ⟨⟨r, (), rfl, rfl, by rw [ht]; exact hP, hD⟩, hS.F ht⟩) hS.2.2 hdg hlocks
  generalize MQ below (Qi0 G A r (wX6 G ad ado f ++ (wX0 G (ado 1) fnow ++ (wX4 G (ado 5) ftape ++ (wX3 G (ado 8) fsightings ++ (wX2 G (ado 11) fsheet0 ++ (wX2 G (ado 12) fsheet1 ++ (wX2 G (ado 13) fsheet2 ++ (wX2 G (ado 14) fsheet3))))))))) args s 0 0 A = Q at hRet ⊢
  have lk44 := hts (.fieldLink RX6 44 "FeatherShares" "sightings" "LFeatherShares$Sightings;") (by decide +kernel)
  have inX6 : ∀ w ∈ u_ws RX6 TX6 11, w ∈ wsX6_count := by decide +kernel
  have lk97 := va_Nw.use (A := args) rfl (hE.2.1 (RX6, 97, "FeatherShares$Sightings", "size", "I", "FeatherShares") (List.mem_of_getElem? (i := 4) rfl))
  have inX3 : ∀ w ∈ u_ws RX3 TX3 5, w ∈ wsX6_count := by decide +kernel
  have lk23 := hts (.fieldLink RX6 23 "FeatherShares" "keptImages" "I") (by decide +kernel)
  have lk30 := hts (.fieldLink RX6 30 "FeatherShares" "tape" "LFeatherShares$Tape;") (by decide +kernel)
  have lk77 := va_Nw.use (A := args) rfl (hE.2.1 (RX6, 77, "FeatherShares$Tape", "length", "I", "FeatherShares") (List.mem_of_getElem? (i := 0) rfl))
  have inX4 : ∀ w ∈ u_ws RX4 TX4 6, w ∈ wsX6_count := by decide +kernel
  have lk61 := hts (.fieldLink RX6 61 "FeatherShares" "sheets" "[LFeatherShares$Sheet;") (by decide +kernel)
  have lk310 := va_Nw.use (A := args) rfl (hE.2.1 (RX6, 310, "FeatherShares$Sheet", "isNothing", "Z", "FeatherShares") (List.mem_of_getElem? (i := 24) rfl))
  have inX2 : ∀ w ∈ u_ws RX2 TX2 4, w ∈ wsX6_count := by decide +kernel
  have lk314 := va_Nw.use (A := args) rfl (hE.2.1 (RX6, 314, "FeatherShares$Sheet", "size", "I", "FeatherShares") (List.mem_of_getElem? (i := 25) rfl))
  have lk12 := hts (.fieldLink RX6 12 "FeatherShares" "now" "LFeatherShares$Flock;") (by decide +kernel)
  have lk171 := va_Nw.use (A := args) rfl (hE.2.1 (RX6, 171, "FeatherShares$Flock", "feathers", "[I", "FeatherShares") (List.mem_of_getElem? (i := 18) rfl))
  have inX0 : ∀ w ∈ u_ws RX0 TX0 13, w ∈ wsX6_count := by decide +kernel
  have hl : lv_has ls 2 [(0, .ref (ad 0)), (1, .int x1)] := hl
  have hK0 : r = r := rfl
  obtain ⟨res, hres, hK⟩ : ∃ res, p_X6_count f fnow ftape fsightings fsheet0 fsheet1 fsheet2 fsheet3 x1 = some res ∧ res = r := ⟨_, hf, rfl⟩
  clear hf
  have hf := hres
  clear hres
  unfold p_X6_count at hf
  refine lv_iload_n hx hb dX6_count_0 rfl (lv_at hl 1 rfl) ?_
  by_cases hs0 : x1 = (nI 0)
  · have hf := if_t hf hs0
    refine lv_tableIn (tgt := 40) hx hb dX6_count_1 (by rw [hs0]; decide) (by rw [hs0]; decide) (by rw [hs0]; rfl) (by decide) ?_
    refine lv_aload_n hx hb dX6_count_40 rfl (lv_at hl 0 rfl) ?_
    refine va_get (C := RX6) (T := TX6) (N := 11) (ci := 6) (v := .ref ((ado 8) 0)) hx hb hts inX6 hown hT hP 0 rfl rfl 6 (Nat.le_of_ble_eq_true rfl) lk44 (fun _ h => h) rfl dX6_count_41 ?_
    refine va_getN (C := RX3) (T := TX3) (N := 5) (ci := 3) (v := .int (fsightings 0 0)) hx hb hts inX3 hown hT hP 17 rfl rfl 0 (Nat.le_of_ble_eq_true rfl) lk97 (fun _ h => h) rfl dX6_count_44 ?_
    have hK9 := K0_of hf hK
    exact hRet (fsightings 0 0) _ _ _ _ hK9 dX6_count_47 hP hD hS
  have hf := if_f hf hs0
  by_cases hs1 : x1 = (nI 1)
  · have hf := if_t hf hs1
    refine lv_tableIn (tgt := 48) hx hb dX6_count_1 (by rw [hs1]; decide) (by rw [hs1]; decide) (by rw [hs1]; rfl) (by decide) ?_
    refine lv_aload_n hx hb dX6_count_48 rfl (lv_at hl 0 rfl) ?_
    refine va_get (C := RX6) (T := TX6) (N := 11) (ci := 6) (v := .int (f 0 0)) hx hb hts inX6 hown hT hP 0 rfl rfl 3 (Nat.le_of_ble_eq_true rfl) lk23 (fun _ h => h) rfl dX6_count_49 ?_
    obtain ⟨r52, hc52, hf⟩ := bd_e hf
    refine cl_i_ro (Wd := (wX6 G ad ado f ++ (wX0 G (ado 1) fnow ++ (wX4 G (ado 5) ftape ++ (wX3 G (ado 8) fsightings ++ (wX2 G (ado 11) fsheet0 ++ (wX2 G (ado 12) fsheet1 ++ (wX2 G (ado 13) fsheet2 ++ (wX2 G (ado 14) fsheet3))))))))) (Wc := ([] : va_W)) [] rfl (va_runS (As := [.int (f 0 0)]) (rest := []) hC (c_J6_bitCount_0f7a4 l G (f 0 0) r52 hc52 _) (va_cwS 1 hts gX6_count_J6_bitCount_0f7a4 rfl rfl rfl (by decide +kernel) ⟨Nat.le_of_ble_eq_true rfl, Nat.le_of_ble_eq_true rfl⟩) ⟨Pc0_blind, fun U hU hW => Pc0_at (Wd := ([] : va_W)) hE (hP.subm [] rfl) (hD.sub [] (by decide) rfl) hU hW⟩ rfl rfl hl.1 rfl (lv_room (Nat.le_of_ble_eq_true rfl)) dX6_count_52 ⟨Nat.zero_le _, Nat.zero_le _⟩) hS hA hP hD (fun H locs hP hD hS => ?_)
    have hK9 := K0_of hf hK
    exact hRet r52 _ _ _ _ hK9 dX6_count_55 hP hD hS
  have hf := if_f hf hs1
  by_cases hs2 : x1 = (nI 2)
  · have hf := if_t hf hs2
    refine lv_tableIn (tgt := 56) hx hb dX6_count_1 (by rw [hs2]; decide) (by rw [hs2]; decide) (by rw [hs2]; rfl) (by decide) ?_
    refine lv_aload_n hx hb dX6_count_56 rfl (lv_at hl 0 rfl) ?_
    refine va_get (C := RX6) (T := TX6) (N := 11) (ci := 6) (v := .ref ((ado 5) 0)) hx hb hts inX6 hown hT hP 0 rfl rfl 4 (Nat.le_of_ble_eq_true rfl) lk30 (fun _ h => h) rfl dX6_count_57 ?_
    refine va_getN (C := RX4) (T := TX4) (N := 6) (ci := 4) (v := .int (ftape 0 0)) hx hb hts inX4 hown hT hP 15 rfl rfl 1 (Nat.le_of_ble_eq_true rfl) lk77 (fun _ h => h) rfl dX6_count_60 ?_
    have hK9 := K0_of hf hK
    exact hRet (ftape 0 0) _ _ _ _ hK9 dX6_count_63 hP hD hS
  have hf := if_f hf hs2
  by_cases hs3 : x1 = (nI 3)
  · have hf := if_t hf hs3
    refine lv_tableIn (tgt := 64) hx hb dX6_count_1 (by rw [hs3]; decide) (by rw [hs3]; decide) (by rw [hs3]; rfl) (by decide) ?_
    refine lv_aload_n hx hb dX6_count_64 rfl (lv_at hl 0 rfl) ?_
    refine va_get (C := RX6) (T := TX6) (N := 11) (ci := 6) (v := .ref (ad 3)) hx hb hts inX6 hown hT hP 0 rfl rfl 9 (Nat.le_of_ble_eq_true rfl) lk61 (fun _ h => h) rfl dX6_count_65 ?_
    refine lv_iconst (v := (nI 0)) hx hb dX6_count_68 (ic_0) ?_
    refine va_aldq hx hb hT hP 3 3 rfl rfl (vp_in_nI (by decide) (by decide)) dX6_count_69 ?_
    refine W.eq (g2 := F0 m 70 ls [.ref ((ado 11) 0)]) rfl ?_
    refine va_getN (C := RX2) (T := TX2) (N := 4) (ci := 2) (v := .int (fsheet0 0 0)) hx hb hts inX2 hown hT hP 22 rfl rfl 1 (Nat.le_of_ble_eq_true rfl) lk310 (fun _ h => h) rfl dX6_count_70 ?_
    refine lv_if_eq (tgt := 81) hx hb dX6_count_73 (by decide) (fun hc => ?_) (fun hc => ?_)
    · have hf := if_t hf hc
      refine lv_aload_n hx hb dX6_count_81 rfl (lv_at hl 0 rfl) ?_
      refine va_get (C := RX6) (T := TX6) (N := 11) (ci := 6) (v := .ref (ad 3)) hx hb hts inX6 hown hT hP 0 rfl rfl 9 (Nat.le_of_ble_eq_true rfl) lk61 (fun _ h => h) rfl dX6_count_82 ?_
      refine lv_iconst (v := (nI 0)) hx hb dX6_count_85 (ic_0) ?_
      refine va_aldq hx hb hT hP 3 3 rfl rfl (vp_in_nI (by decide) (by decide)) dX6_count_86 ?_
      refine W.eq (g2 := F0 m 87 ls [.ref ((ado 11) 0)]) rfl ?_
      refine va_getN (C := RX2) (T := TX2) (N := 4) (ci := 2) (v := .int (fsheet0 0 2)) hx hb hts inX2 hown hT hP 22 rfl rfl 3 (Nat.le_of_ble_eq_true rfl) lk314 (fun _ h => h) rfl dX6_count_87 ?_
      have hK9 := K0_of hf hK
      exact hRet (fsheet0 0 2) _ _ _ _ hK9 dX6_count_90 hP hD hS
    · have hf := if_f hf hc
      refine lv_bipush (v := (-4 : Int32)) hx hb dX6_count_76 (bi_m4) ?_
      refine lv_goto (tgt := 90) hx hb dX6_count_78 (by decide) ?_
      have hK9 := K0_of hf hK
      exact hRet (-4 : Int32) _ _ _ _ hK9 dX6_count_90 hP hD hS
  have hf := if_f hf hs3
  by_cases hs4 : x1 = (nI 4)
  · have hf := if_t hf hs4
    refine lv_tableIn (tgt := 91) hx hb dX6_count_1 (by rw [hs4]; decide) (by rw [hs4]; decide) (by rw [hs4]; rfl) (by decide) ?_
    refine lv_aload_n hx hb dX6_count_91 rfl (lv_at hl 0 rfl) ?_
    refine va_get (C := RX6) (T := TX6) (N := 11) (ci := 6) (v := .ref ((ado 1) 0)) hx hb hts inX6 hown hT hP 0 rfl rfl 0 (Nat.le_of_ble_eq_true rfl) lk12 (fun _ h => h) rfl dX6_count_92 ?_
    refine va_getN (C := RX0) (T := TX0) (N := 13) (ci := 0) (v := .ref ((ado 1) 4)) hx hb hts inX0 hown hT hP 4 rfl rfl 6 (Nat.le_of_ble_eq_true rfl) lk171 (fun _ h => h) rfl dX6_count_95 ?_
    obtain ⟨r98, hc98, hf⟩ := bd_e hf
    refine cl_i_ro (Wd := (wX6 G ad ado f ++ (wX0 G (ado 1) fnow ++ (wX4 G (ado 5) ftape ++ (wX3 G (ado 8) fsightings ++ (wX2 G (ado 11) fsheet0 ++ (wX2 G (ado 12) fsheet1 ++ (wX2 G (ado 13) fsheet2 ++ (wX2 G (ado 14) fsheet3))))))))) (Wc := (wRow G ((ado 1) 4) 15 (fnow 4))) [8] rfl (va_runS (As := [.ref ((ado 1) 4)]) (rest := []) hC (c_X6_sumOf l G ((ado 1) 4) 15 (fnow 4) r98 hc98 _) (va_cwS 1 hts gX6_count_X6_sumOf rfl rfl rfl (by decide +kernel) ⟨Nat.le_of_ble_eq_true rfl, Nat.le_of_ble_eq_true rfl⟩) ⟨Pc0_blind, fun U hU hW => Pc0_at (Wd := (wRow G ((ado 1) 4) 15 (fnow 4))) hE (hP.subm [8] rfl) (hD.sub [8] (by decide) rfl) hU hW⟩ rfl rfl hl.1 rfl (lv_room (Nat.le_of_ble_eq_true rfl)) dX6_count_98 ⟨Nat.zero_le _, Nat.zero_le _⟩) hS hA hP hD (fun H locs hP hD hS => ?_)
    have hK9 := K0_of hf hK
    exact hRet r98 _ _ _ _ hK9 dX6_count_101 hP hD hS
  have hf := if_f hf hs4
  by_cases hs5 : x1 = (nI 5)
  · have hf := if_t hf hs5
    refine lv_tableIn (tgt := 102) hx hb dX6_count_1 (by rw [hs5]; decide) (by rw [hs5]; decide) (by rw [hs5]; rfl) (by decide) ?_
    refine lv_aload_n hx hb dX6_count_102 rfl (lv_at hl 0 rfl) ?_
    refine va_get (C := RX6) (T := TX6) (N := 11) (ci := 6) (v := .ref ((ado 1) 0)) hx hb hts inX6 hown hT hP 0 rfl rfl 0 (Nat.le_of_ble_eq_true rfl) lk12 (fun _ h => h) rfl dX6_count_103 ?_
    obtain ⟨r106, hc106, hf⟩ := bd_e hf
    refine cl_i_ro (Wd := (wX6 G ad ado f ++ (wX0 G (ado 1) fnow ++ (wX4 G (ado 5) ftape ++ (wX3 G (ado 8) fsightings ++ (wX2 G (ado 11) fsheet0 ++ (wX2 G (ado 12) fsheet1 ++ (wX2 G (ado 13) fsheet2 ++ (wX2 G (ado 14) fsheet3))))))))) (Wc := (wX0 G (ado 1) fnow)) [4, 5, 6, 7, 8, 9, 10, 11, 12, 13, 14] rfl (va_runVN (As := []) (rest := []) hC (c_X0_feathersOfPlan l G (ado 1) fnow r106 hc106 _) ⟨va_cnB 0 hts gX6_count_X0_feathersOfPlan_n315 rfl rfl rfl (hE.2.2 (RX6, 315, yX0_feathersOfPlan, "FeatherShares") (List.mem_of_getElem? (i := 37) rfl)) (hts (.initialized RX0) (by decide +kernel)) (by decide +kernel) ⟨Nat.le_of_ble_eq_true rfl, Nat.le_of_ble_eq_true rfl⟩, hts (.instanceMethod yX0_feathersOfPlan) (by decide +kernel), hts (.selects RX0 yX0_feathersOfPlan yX0_feathersOfPlan) (by decide +kernel)⟩ ⟨Pc0_blind, va_recv hT hP (q0 := 4) (ci := 0) rfl rfl, fun U hU hW => Pc0_at (Wd := (wX0 G (ado 1) fnow)) hE (hP.subm [4, 5, 6, 7, 8, 9, 10, 11, 12, 13, 14] rfl) (hD.sub [4, 5, 6, 7, 8, 9, 10, 11, 12, 13, 14] (by decide) rfl) hU hW⟩ rfl rfl hl.1 rfl (lv_room (Nat.le_of_ble_eq_true rfl)) dX6_count_106 ⟨Nat.zero_le _, Nat.zero_le _⟩) hS hA hP hD (fun H locs hP hD hS => ?_)
    have hK9 := K0_of hf hK
    exact hRet r106 _ _ _ _ hK9 dX6_count_109 hP hD hS
  have hf := if_f hf hs5
  have hout : x1.toInt < 0 ∨ 5 < x1.toInt := by
    have t0 := ne_int hs0 (by decide)
    have t1 := ne_int hs1 (by decide)
    have t2 := ne_int hs2 (by decide)
    have t3 := ne_int hs3 (by decide)
    have t4 := ne_int hs4 (by decide)
    have t5 := ne_int hs5 (by decide)
    omega
  refine lv_tableOut (tgt := 110) hx hb dX6_count_1 hout (by decide) ?_
  refine lv_iconst (v := (-1 : Int32)) hx hb dX6_count_110 (ic_m1) ?_
  have hK9 := K0_of hf hK
  exact hRet (-1 : Int32) _ _ _ _ hK9 dX6_count_111 hP hD hS
